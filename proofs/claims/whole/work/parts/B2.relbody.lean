theorem rn_1 {C : Me} {x u l m : Int} {n : Nat} : thR (rnC C x n u l m) (fun D => (1, D)) = rnC C x n u l m := thR_1o rn_01
/-- how many numbers a deed has -/
def nuD (s : Int) : Int := if s = 4 then 3 else if s = 3 ∨ s = 5 then 2 else 1
theorem DR.of {C A A' : Me} {n : Nat} {x c X u u2 : Int} {r : RV} {v : Int} (h : DR C A n x c X u r v A') (e : u = u2) : DR C A n x c X u2 r v A' := by subst e; exact h
/-- the body of a deed, side by side -/
theorem de_ok {C A : Me} {n : Nat} {x c X s : Int} (hx : 15 ≤ x ∧ x ≤ 39) (h : DS C A n) (hc : C x 0 = c + 1) (c0 : 0 ≤ c) (hs : 3 ≤ s ∧ s ≤ 10) : DR C A n x c X (nuD s) (deC C x n (kdm s)) (bdV A n s X) (bdM A n s X) ∧ (bdV A n s X = 0 → (s = 9 → 1 ≤ bdM A n s X 432 (X + 1) ∧ bdM A n s X 432 (X + 1) ≤ 9) ∧ (s = 10 → 1 ≤ bdM A n s X 432 (X + 1) ∧ bdM A n s X 432 (X + 1) ≤ 60)) := by
  have one : ∀ l m : Int, 0 ≤ l → m ≤ 9999 → _ := fun l m a b => f1_ok (X := X) (l := l) (m := m) hx h hc c0 a b
  rcases (show s = 3 ∨ s = 4 ∨ s = 5 ∨ s = 6 ∨ s = 7 ∨ s = 8 ∨ s = 9 ∨ s = 10 by omega) with q | q | q | q | q | q | q | q <;> subst q
  · have z := pr_ok (X := X) (w := w5L 99 111 105 110 115) (due := 32) (m := 2) (d := 9999) hx h hc c0 (by decide) (by decide) (fun _ _ t => te_coins t)
    refine ⟨?_, fun _ => ⟨fun w => absurd w (by decide), fun w => absurd w (by decide)⟩⟩
    unfold deC bdV bdM nuD
    simp only [kdm, reduceIte, Int.reduceEq, Int.reduceAdd, rn_1]
    exact z
  · have z := cr_ok (X := X) hx h hc c0
    refine ⟨?_, fun _ => ⟨fun w => absurd w (by decide), fun w => absurd w (by decide)⟩⟩
    unfold deC bdV bdM nuD
    simp only [kdm, reduceIte, Int.reduceEq, Int.reduceAdd, rn_1]
    simp only [thR_a] at z
    exact z
  · have z := pr_ok (X := X) (w := w2L 116 111) (due := 34) (m := 11) (d := 11) hx h hc c0 (by decide) (by decide) (fun _ _ t => te_to t)
    refine ⟨?_, fun _ => ⟨fun w => absurd w (by decide), fun w => absurd w (by decide)⟩⟩
    unfold deC bdV bdM nuD
    simp only [kdm, reduceIte, Int.reduceEq, Int.reduceAdd, rn_1]
    exact z
  · have z := one 0 9 (by decide) (by decide)
    refine ⟨?_, fun _ => ⟨fun w => absurd w (by decide), fun w => absurd w (by decide)⟩⟩
    unfold deC bdV bdM nuD
    simp only [kdm, reduceIte, Int.reduceEq, Int.reduceAdd]
    exact z.1
  · have z := one 0 11 (by decide) (by decide)
    refine ⟨?_, fun _ => ⟨fun w => absurd w (by decide), fun w => absurd w (by decide)⟩⟩
    unfold deC bdV bdM nuD
    simp only [kdm, reduceIte, Int.reduceEq, Int.reduceAdd]
    exact z.1
  · have z := one 0 11 (by decide) (by decide)
    refine ⟨?_, fun _ => ⟨fun w => absurd w (by decide), fun w => absurd w (by decide)⟩⟩
    unfold deC bdV bdM nuD
    simp only [kdm, reduceIte, Int.reduceEq, Int.reduceAdd]
    exact z.1
  · have z := one 1 9 (by decide) (by decide)
    unfold deC bdV bdM nuD
    simp only [kdm, reduceIte, Int.reduceEq, Int.reduceAdd]
    exact ⟨z.1, fun w => ⟨fun _ => z.2 w, fun w => absurd w (by decide)⟩⟩
  · have z := one 1 60 (by decide) (by decide)
    unfold deC bdV bdM nuD
    simp only [kdm, reduceIte, Int.reduceEq, Int.reduceAdd]
    exact ⟨z.1, fun w => ⟨fun w => absurd w (by decide), fun _ => z.2 w⟩⟩
/-- the sort of a clause, side by side -/
theorem te_so {C A : Me} {n : Nat} (h : TE C A n) : soO A = if C 2 7 = 16 then 0 else if C 2 7 = 17 then 1 else if C 2 7 = 18 then 2 else if C 2 7 = 19 then 3 else if C 2 7 = 20 then 4 else if C 2 7 = 21 then 5 else if C 2 7 = 25 then 6 else if C 2 7 = 22 then 7 else if C 2 7 = 23 then 8 else if C 2 7 = 24 then 9 else if C 2 7 = 26 then 10 else -1 := by
  unfold soO
  exact if_cg (te_presses h) rfl (if_cg (te_scorches h) rfl (if_cg (te_price h) rfl (if_cg (te_person h) rfl (if_cg (te_crease h) rfl (if_cg (te_tie h) rfl (if_cg (te_heat h) rfl (if_cg (te_press h) rfl (if_cg (te_pattern h) rfl (if_cg (te_damp h) rfl (if_cg (te_hour h) rfl rfl))))))))))
theorem so_kd {k s : Int} (h : s = if k = 16 then 0 else if k = 17 then 1 else if k = 18 then 2 else if k = 19 then 3 else if k = 20 then 4 else if k = 21 then 5 else if k = 25 then 6 else if k = 22 then 7 else if k = 23 then 8 else if k = 24 then 9 else if k = 26 then 10 else -1) : (s < 0 ↔ k < 16 ∨ 26 < k) ∧ (0 ≤ s → s ≤ 10 ∧ kdm s = k ∧ (s ≤ 2 ↔ k ≤ 18) ∧ (s ≤ 2 → s = k - 16)) := by
  unfold kdm
  omega
/-- a law of a text, as both have it -/
def LAWI (C A : Me) (x z l : Int) : Prop := (C (x + 1) l = -1 ∧ ∀ i : Int, 0 ≤ i → i < A 432 z → A 432 (z + 1 + 4 * i) ≠ l) ∨ ∃ (i : Nat) (c1 : Int), (i : Int) < A 432 z ∧ A 432 (z + 1 + 4 * (i : Int)) = l ∧ (∀ q : Nat, (q : Int) < A 432 z → q ≠ i → A 432 (z + 1 + 4 * (q : Int)) ≠ l) ∧ 0 ≤ C (x + 1) l ∧ c1 < C x 1 ∧ C (x + 2) c1 = or32 (shl32 0 6) 5 ∧ 0 ≤ A 432 (z + 1 + 4 * (i : Int) + 1) ∧ A 432 (z + 1 + 4 * (i : Int) + 2) ≤ A 429 13 ∧ SEG (C (x + 2)) (A 432) (z + 97) (C (x + 1) l) c1 (A 432 (z + 1 + 4 * (i : Int) + 1)) (A 432 (z + 1 + 4 * (i : Int) + 2)) 3 0
/-- a clause, as both have it -/
def CLI (C A : Me) (x z i : Int) : Prop := (0 ≤ A 432 (z + 1 + 4 * i) ∧ A 432 (z + 1 + 4 * i) ≤ 10) ∧ C (x + 3) i = kdm (A 432 (z + 1 + 4 * i)) ∧ (3 ≤ A 432 (z + 1 + 4 * i) → ∀ u : Int, 0 ≤ u → u < nuD (A 432 (z + 1 + 4 * i)) → C (x + 5 + u) i = A 432 (z + 1 + 4 * i + 1 + u)) ∧ (A 432 (z + 1 + 4 * i) = 9 → 1 ≤ A 432 (z + 1 + 4 * i + 1) ∧ A 432 (z + 1 + 4 * i + 1) ≤ 9) ∧ (A 432 (z + 1 + 4 * i) = 10 → 1 ≤ A 432 (z + 1 + 4 * i + 1) ∧ A 432 (z + 1 + 4 * i + 1) ≤ 60)
/-- a text as far as it is read -/
def TXI (C A : Me) (n : Nat) (x z : Int) : Prop := DS C A n ∧ (A 429 12 = z ∧ C 2 1 = 0 ∧ C 2 2 = -1) ∧ (C x 0 = A 432 z ∧ 0 ≤ A 432 z ∧ A 432 z ≤ 24) ∧ (0 ≤ A 429 13 ∧ A 429 13 ≤ A 429 8) ∧ (0 ≤ C x 1 ∧ C x 1 ≤ A 429 8) ∧ (∀ l : Int, 0 ≤ l → l < 3 → (C (x + 1) l ≠ -1 ↔ and32 (shr32 (A 429 19) l) 1 = 1) ∧ LAWI C A x z l) ∧ ∀ i : Int, 0 ≤ i → i < A 432 z → CLI C A x z i
/-- what is read stays -/
theorem LAWI.of {C A C' A' : Me} {x z l : Int} (h : LAWI C A x z l) (hc : A' 432 z = A 432 z ∨ (A' 432 z = A 432 z + 1 ∧ A' 432 (z + 1 + 4 * A 432 z) ≠ l)) (h24 : 0 ≤ A 432 z ∧ A 432 z ≤ 24) (hl : C' (x + 1) l = C (x + 1) l) (hx : C x 1 ≤ C' x 1) (h13 : A 429 13 ≤ A' 429 13) (hK : ∀ j : Int, j < C x 1 → C' (x + 2) j = C (x + 2) j) (hT : ∀ j : Int, z + 1 ≤ j → j < z + 1 + 4 * A 432 z → A' 432 j = A 432 j) (hT2 : ∀ j : Int, z + 97 ≤ j → j < z + 97 + 2 * A 429 13 → A' 432 j = A 432 j) : LAWI C' A' x z l := by
  rcases h with ⟨h1, h2⟩ | ⟨i, c1, h1, h2, h3, h4, h5, h6, h7, h8, h9⟩
  · refine Or.inl ⟨hl.trans h1, fun i a b => ?_⟩
    by_cases q : i = A 432 z
    · rcases hc with w | w
      · omega
      · rw [q]; exact w.2
    · rw [hT _ (by omega) (by omega)]; exact h2 i a (by omega)
  · have e0 := hT (z + 1 + 4 * (i : Int)) (by omega) (by omega)
    have e1 := hT (z + 1 + 4 * (i : Int) + 1) (by omega) (by omega)
    have e2 := hT (z + 1 + 4 * (i : Int) + 2) (by omega) (by omega)
    refine Or.inr ⟨i, c1, by omega, e0.trans h2, fun q hq hn => ?_, by rw [hl]; exact h4, by omega, (hK c1 h5).trans h6, by rw [e1]; exact h7, by rw [e2]; omega, ?_⟩
    · by_cases w : (q : Int) = A 432 z
      · rcases hc with v | v
        · omega
        · rw [w]; exact v.2
      · rw [hT _ (by omega) (by omega)]; exact h3 q (by omega) hn
    · rw [hl, e1, e2]
      exact h9.c (fun j a b => hK j (by omega)) (fun j a b => hT2 j (by omega) (by omega))
theorem CLI.of {C A C' A' : Me} {x z i : Int} (h : CLI C A x z i) (hC : ∀ a : Int, a = x + 3 ∨ (x + 5 ≤ a ∧ a ≤ x + 7) → C' a i = C a i) (hT : ∀ j : Int, z + 1 + 4 * i ≤ j → j ≤ z + 1 + 4 * i + 3 → A' 432 j = A 432 j) : CLI C' A' x z i := by
  unfold CLI
  rw [hT (z + 1 + 4 * i) (by omega) (by omega), hT (z + 1 + 4 * i + 1) (by omega) (by omega), hC (x + 3) (by omega)]
  refine ⟨h.1, h.2.1, fun w u u0 u1 => ?_, h.2.2.2.1, h.2.2.2.2⟩
  have n3 : nuD (A 432 (z + 1 + 4 * i)) ≤ 3 := by unfold nuD; omega
  rw [hC _ (by omega), hT _ (by omega) (by omega)]
  exact h.2.2.1 w u u0 u1
