/-- the reference's reading of a law goes on from A to B -/
def Go (n : Nat) (A B : Me) : Prop := A 429 8 ≤ B 429 8 ∧ ∃ j : Nat, (j : Int) ≤ B 429 8 - A 429 8 ∧ ∀ k : Nat, smI n (j + k) A = smI n k B ∧ (smG n k B → smG n (j + k) A)
/-- it ends with f -/
def Bad (n : Nat) (A : Me) (f : Int) (B : Me) : Prop := f ≠ -1 ∧ (A 429 8 ≤ B 429 8 ∧ B 429 8 ≤ 300) ∧ ∃ j : Nat, (j : Int) ≤ B 429 8 - A 429 8 ∧ ∀ k : Nat, smI n (j + 1 + k) A = (f, B) ∧ smG n (j + 1 + k) A
theorem Go.r {n : Nat} {A : Me} : Go n A A := ⟨Int.le_refl _, 0, by omega, fun k => by rw [Nat.zero_add]; exact ⟨rfl, fun h => h⟩⟩
theorem Go.t {n : Nat} {A B D : Me} (h : Go n A B) (k : Go n B D) : Go n A D := by
  obtain ⟨h0, i, hi, h⟩ := h
  obtain ⟨k0, j, hj, k⟩ := k
  refine ⟨by omega, i + j, by omega, fun l => ?_⟩
  have a := h (j + l)
  have b := k l
  rw [Nat.add_assoc]
  exact ⟨a.1.trans b.1, fun w => a.2 (b.2 w)⟩
theorem Bad.t {n : Nat} {A B D : Me} {f : Int} (h : Go n A B) (k : Bad n B f D) : Bad n A f D := by
  obtain ⟨h0, i, hi, h⟩ := h
  obtain ⟨kf, k0, j, hj, k⟩ := k
  refine ⟨kf, ⟨by omega, k0.2⟩, i + j, by omega, fun l => ?_⟩
  have a := h (j + 1 + l)
  have b := k l
  rw [show i + j + 1 + l = i + (j + 1 + l) by omega]
  exact ⟨a.1.trans b.1, a.2 b.2⟩
theorem Go.s {n : Nat} {A B : Me} (hG : GD A n) (h : sdA A n = (-1, B)) (h8 : A 429 8 + 1 ≤ B 429 8) : Go n A B := ⟨by omega, 1, by omega, fun k => by
  have e : (sdA A n).1 = -1 := by rw [h]
  rw [Nat.add_comm 1 k]
  refine ⟨(smI_s e).trans (by rw [h]), fun w => ⟨hG, fun _ => by rw [h]; exact w⟩⟩⟩
theorem Bad.s {n : Nat} {A B : Me} {f : Int} (hG : GD A n) (hf : f ≠ -1) (h : sdA A n = (f, B)) (h8 : A 429 8 ≤ B 429 8 ∧ B 429 8 ≤ 300) : Bad n A f B := ⟨hf, h8, 0, by omega, fun k => by
  have e : (sdA A n).1 ≠ -1 := by rw [h]; exact hf
  rw [show 0 + 1 + k = k + 1 by omega]
  exact ⟨(smI_e e).trans h, hG, fun w => absurd w e⟩⟩
/-- settling less first -/
theorem stl_st {r q : Int} (h : r ≤ q) : ∀ (i : Nat) (A : Me), A 429 16 = (i : Int) → stl A r i = stl (stl A q i) r (stN A q i) := by
  intro i
  induction i with
  | zero => intro A _; rfl
  | succ i ih =>
    intro A hA
    by_cases w : q ≤ rnk (A 434 i)
    · have e := stl_t (M := A) (r := r) (i := i) (by omega) rfl
      have e2 := stl_t (M := A) (r := q) (i := i) w rfl
      have e3 : stN A q (i + 1) = stN A q i := if_pos w
      rw [e, e2, e3]
      generalize hN : (if rnk (A 434 i) = 7 ∨ A 434 i = 20 then up (tpA A i) 429 17 (tpA A i 429 17 - 1) else tpA A i) = N
      have n16 : N 429 16 = (i : Int) := by
        rw [← hN]; split
        · exact (up_ne (by omega)).trans tpA_16
        · exact tpA_16
      have n434 : ∀ j : Int, N 434 j = A 434 j := fun j => by
        rw [← hN]; split
        · exact (up_ne (by omega)).trans (tpA_o (by omega))
        · exact tpA_o (by omega)
      rw [ih N n16, stN_c (M := A) (N := N) i (fun j _ => n434 j)]
    · rw [stl_f (M := A) (r := q) w, show stN A q (i + 1) = i + 1 from if_neg w]
theorem stl_top {A : Me} {r : Int} {m : Nat} (h : m = 0 ∨ rnk (A 434 ((m : Int) - 1)) < r) : stl A r m = A := by
  cases m with
  | zero => rfl
  | succ m =>
    refine stl_f (fun w => ?_)
    rcases h with h | h
    · omega
    · rw [show ((m + 1 : Nat) : Int) - 1 = (m : Int) by omega] at h; omega
theorem stN_top {A : Me} {r : Int} {m : Nat} (h : m = 0 ∨ rnk (A 434 ((m : Int) - 1)) < r) : stN A r m = m := by
  cases m with
  | zero => rfl
  | succ m =>
    refine if_neg (fun w => ?_)
    rcases h with h | h
    · omega
    · rw [show ((m + 1 : Nat) : Int) - 1 = (m : Int) by omega] at h; omega
theorem nx_8 {A : Me} {n : Nat} : A 429 7 ≤ nxT A n 429 8 := by
  have b := skA_b (M := A) (n - A 429 7).toNat (A 429 7)
  unfold nxT
  generalize skA A (n - A 429 7).toNat (A 429 7) = s at b
  have e : nxtS A n s 429 8 = s := by
    unfold nxtS
    (repeat' split) <;> exact tk_r8
  rw [e]; exact b.1
theorem tv_go {C : Me} {n : Nat} : 0 ≤ goC C n 2 8 ∧ goC C n 2 8 ≤ 10000 := by
  unfold goC goS2
  generalize skC C (n - C 2 5).toNat (C 2 5) = s
  split
  · rw [tc_r8]; decide
  · split
    · rw [tc_r8]
      have : ∀ (f : Nat) (i u : Int), 0 ≤ u ∧ u ≤ 10000 → 0 ≤ (nuC C f i u).2 ∧ (nuC C f i u).2 ≤ 10000 := by
        intro f
        induction f with
        | zero => intro i u h; exact h
        | succ f ih =>
          intro i u h
          unfold nuC
          split
          · rename_i q; exact ih _ _ (by unfold dgP at q; omega)
          · exact h
      exact this _ _ _ (by decide)
    · split
      · rw [tc_r8]; decide
      · rw [tc_r8]; decide
/-- the token's cells are the same -/
theorem TE.of {C A C' A' : Me} {n : Nat} (h : TE C A n) (hC : ∀ j : Int, 5 ≤ j → j ≤ 8 → C' 2 j = C 2 j) (hA : ∀ j : Int, j = 4 ∨ (7 ≤ j ∧ j ≤ 11) → A' 429 j = A 429 j) (hT : ∀ j : Int, A' 433 j = A 433 j) : TE C' A' n := by
  have eb : bta A' = bta A := funext fun i => by unfold bta; rw [hA 4 (by omega), hT]
  have el : leA A' = leA A := by
    show ls (bta A') (A' 429 8) (A' 429 7 - A' 429 8).toNat = _
    rw [eb, hA 7 (by omega), hA 8 (by omega)]
  unfold TE
  rw [el, hC 5 (by decide) (by decide), hC 6 (by decide) (by decide), hC 7 (by decide) (by decide), hC 8 (by decide) (by decide), hA 7 (by omega), hA 8 (by omega), hA 9 (by omega), hA 10 (by omega), hA 11 (by omega)]
  exact h
theorem TPE.of {C A C' A' : Me} {n : Nat} (h : TPE C A n) (hC : C' 2 0 = C 2 0 ∧ ∀ j : Int, C' 3 j = C 3 j) (hA : A' 429 4 = A 429 4 ∧ ∀ j : Int, A' 433 j = A 433 j) : TPE C' A' n := by
  obtain ⟨h0, h1, h2, h3⟩ := h
  exact ⟨hC.1.trans h0, hA.1.trans h1, h2, fun j a b => by rw [hC.2, hA.2]; exact h3 j a b⟩
/-- a token on both sides, behind changes elsewhere -/
theorem te_nx {C A C' A' : Me} {n : Nat} (h : TPE C A n) (t : TE C A n) (hC : ∀ a j : Int, a = 2 ∧ (j = 0 ∨ j = 5) ∨ a = 3 → C' a j = C a j) (hA : ∀ a j : Int, a = 429 ∧ (j = 4 ∨ j = 7) ∨ a = 433 → A' a j = A a j) : TE (goC C' n) (nxT A' n) n ∧ TPE (goC C' n) (nxT A' n) n ∧ (A 429 7 ≤ nxT A' n 429 8) := by
  have p : TPE C' A' n := h.of ⟨hC 2 0 (by omega), fun j => hC 3 j (by omega)⟩ ⟨hA 429 4 (by omega), fun j => hA 433 j (by omega)⟩
  have e7 := hA 429 7 (by omega)
  refine ⟨te_go p (by rw [hC 2 5 (by omega), e7]; exact t.1.1) (by rw [e7]; have := t.2.1; omega), p.of ⟨goC_o (by omega), fun j => goC_o (by omega)⟩ ⟨nxT_o (by omega), fun j => nxT_o (by omega)⟩, ?_⟩
  rw [← e7]; exact nx_8
/-- what the class's reading of a law leaves alone -/
def FRC (x c : Int) (C C' : Me) : Prop := ∀ a j : Int, ¬ (a = 2 ∧ (5 ≤ j ∧ j ≤ 8)) → ¬ (a = x ∧ j = 1) → ¬ (a = x + 2 ∧ c ≤ j) → C' a j = C a j
theorem FRC.r {x c : Int} {C : Me} : FRC x c C C := fun _ _ _ _ _ => rfl
theorem FRC.t {x c d : Int} {C D E : Me} (h : FRC x c C D) (k : FRC x d D E) (hd : c ≤ d) : FRC x c C E := fun a j h1 h2 h3 => (k a j h1 h2 (fun w => h3 ⟨w.1, by omega⟩)).trans (h a j h1 h2 h3)
theorem FRC.go {x c : Int} {C : Me} {n : Nat} : FRC x c C (goC C n) := fun a j h1 _ _ => goC_o (fun w => h1 ⟨w.1, by omega⟩)
theorem ad_e {M : Me} {x k v : Int} (h : M x 1 < 300) : adC M x k v = up (up M (x + 2) (M x 1) (or32 (shl32 v 6) k)) x 1 (M x 1 + 1) := if_pos h
theorem FRC.ad {x c : Int} {C : Me} {k v : Int} (h : c ≤ C x 1) : FRC x c C (adC C x k v) := fun a j h1 h2 h3 => by
  unfold adC
  split
  · exact (up_ne (fun w => h2 w)).trans (up_ne (fun w => h3 ⟨w.1, by omega⟩))
  · rfl
theorem FRC.am {x c : Int} {C : Me} {j9 : Int} (h : c ≤ j9) : FRC x c C (amC C x j9) := fun a j h1 h2 h3 => by
  unfold amC
  split
  · exact up_ne (fun w => h3 ⟨w.1, by omega⟩)
  · rfl
/-- on both sides, as a part of a law begins -/
def ENT (C A : Me) (n : Nat) (x o : Int) (m : Nat) : Prop := (TPE C A n ∧ TE C A n ∧ (0 ≤ C 2 8 ∧ C 2 8 ≤ 10000)) ∧ A 429 14 = C 2 9 ∧ (0 ≤ A 429 12 ∧ A 429 12 ≤ 2115) ∧ (A 429 16 = (m : Int) ∧ m ≤ 60) ∧ (A 429 17 = o ∧ 0 ≤ o ∧ o ≤ 8) ∧ (0 ≤ A 429 13 ∧ A 429 13 + m ≤ A 429 8) ∧ (0 ≤ C x 1 ∧ C x 1 ≤ A 429 8) ∧ A 429 18 = 0
theorem ENT.gd {C A : Me} {n : Nat} {x o : Int} {m : Nat} (h : ENT C A n x o m) : GD A n := by
  obtain ⟨⟨h1, h2, h3⟩, h4, h5, h6, h7, h8, h9, h10⟩ := h
  have p := h2.2.1
  exact ⟨h1.2.1, h1.2.2.1, ⟨by omega, p.2.2.1⟩, h5, ⟨h8.1, by omega, by have := h1.2.2.1; omega⟩, by omega, by omega⟩
theorem ENT.pl {C A : Me} {n : Nat} {x o : Int} {m : Nat} (h : ENT C A n x o m) : pil A = m := by
  unfold pil; rw [h.2.2.2.1.1]; rfl
/-- behind a part of a law that is whole; V: all of it settled -/
def PST (C A C' A' V : Me) (n : Nat) (x o : Int) (m : Nat) (ρ tr bd : Int) : Prop :=
  (TPE C' A' n ∧ TE C' A' n ∧ (0 ≤ C' 2 8 ∧ C' 2 8 ≤ 10000)) ∧
  (A' 429 18 = 1 ∧ (0 ≤ A' 429 16 ∧ A' 429 16 ≤ 70) ∧ (ρ ≤ 6 → 0 ≤ A' 429 17 ∧ A' 429 17 ≤ 8) ∧ (ρ = 7 → A' = stl V 7 m)) ∧
  (A 429 8 < A' 429 8 ∧ A' 429 13 + A' 429 16 - (A 429 13 + m) ≤ A' 429 8 - A 429 8 ∧ A 429 13 ≤ A' 429 13) ∧
  (C x 1 ≤ C' x 1 ∧ C' x 1 - C x 1 ≤ A' 429 8 - A 429 8) ∧
  (FRC x (C x 1) C C' ∧ FR A A' ∧ FR A V) ∧
  (∀ a j : Int, a ≠ 432 → ¬ (a = 429 ∧ (j = 13 ∨ j = 16 ∨ j = 17)) → V a j = A' a j) ∧
  (V 429 16 = (m : Int) ∧ V 429 17 = o ∧ V 429 13 + m = A' 429 13 + A' 429 16) ∧
  (∀ j : Int, 0 ≤ j → j < m → A' 434 j = A 434 j) ∧
  (opn A' (pil A') = opn A m ∧ icS A' (pil A') = if tr = 1 then 1 else icS A m) ∧
  (∀ r : Int, 1 ≤ r → r ≤ ρ → stl A' r (pil A') = stl V r m) ∧
  SEG (C' (x + 2)) (V 432) (A 429 12 + 97) (C x 1) (C' x 1) (A 429 13) (V 429 13) bd tr
/-- tokens that can't stand behind such a part -/
def ENDT (ρ k : Int) : Prop := (ρ ≤ 6 → k ≠ 8 ∧ k ≠ 9) ∧ (ρ ≤ 5 → k ≠ 6 ∧ k ≠ 7) ∧ (ρ ≤ 2 → k ≠ 42) ∧ (ρ ≤ 1 → k ≠ 43)
/-- both end there with the same fault -/
def FAIL (A : Me) (n : Nat) (r : RV) : Prop := r.1 = 0 ∧ ∃ (f : Int) (B : Me), Bad n A f B ∧ f ≠ 0 ∧ r.2 2 1 = f ∧ r.2 2 2 = B 429 8
def RES (C A : Me) (n : Nat) (x o : Int) (m : Nat) (ρ tr bd : Int) (r : RV) : Prop := (r.1 ≠ 0 ∧ ∃ A' V : Me, Go n A A' ∧ PST C A r.2 A' V n x o m ρ tr bd) ∨ FAIL A n r
theorem FAIL.t {A B : Me} {n : Nat} {r : RV} (h : Go n A B) (k : FAIL B n r) : FAIL A n r := by
  obtain ⟨k0, f, D, k1, k2, k3, k4⟩ := k
  exact ⟨k0, f, D, k1.t h, k2, k3, k4⟩
theorem FAIL.of {A : Me} {n : Nat} {r r' : RV} (k : FAIL A n r) (h : r'.1 = 0) (h1 : r'.2 2 1 = r.2 2 1) (h2 : r'.2 2 2 = r.2 2 2) : FAIL A n r' := by
  obtain ⟨k0, f, D, k1, k2, k3, k4⟩ := k
  exact ⟨h, f, D, k1, k2, h1.trans k3, h2.trans k4⟩
theorem rf_12 {C : Me} {w : Int} : rfC C w 2 1 = w ∧ rfC C w 2 2 = C 2 6 := ⟨(up_ne (by omega)).trans (up_eq ⟨rfl, rfl⟩), up_eq ⟨rfl, rfl⟩⟩
/-- both refuse the token at hand -/
theorem FAIL.s {C A : Me} {n : Nat} {f : Int} (t : TE C A n) (hG : GD A n) (h0 : f ≠ 0) (h1 : f ≠ -1) (h : sdA A n = (f, A)) : FAIL A n (0, rfC C f) := by
  refine ⟨rfl, f, A, Bad.s hG h1 h ⟨Int.le_refl _, by have a := t.2.1; have b := hG.2.1; omega⟩, h0, ?_, ?_⟩
  · exact (rf_12 (C := C) (w := f)).1
  · exact (rf_12 (C := C) (w := f)).2.trans t.1.2
