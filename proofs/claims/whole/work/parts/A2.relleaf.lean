theorem sd_b {A : Me} {n m : Nat} (h : A 429 18 = 0) (hm : pil A = m) (hV : bgV A m = 0) : sdA A n = (-1, bgM A n m) := by
  unfold sdA
  rw [if_pos h, hm, if_pos hV]
theorem sd_b1 {A : Me} {n m : Nat} (h : A 429 18 = 0) (hm : pil A = m) (hV : bgV A m ≠ 0) : sdA A n = (bgV A m, bgM A n m) := by
  unfold sdA
  rw [if_pos h, hm, if_neg hV]
theorem icS_sN {M : Me} {r : Int} (hr : 5 ≤ r) : ∀ i : Nat, icS M (stN M r i) = icS M i := by
  intro i
  induction i with
  | zero => rfl
  | succ i ih =>
    by_cases q : r ≤ rnk (M 434 i)
    · rw [show stN M r (i + 1) = stN M r i from if_pos q, ih, show icS M (i + 1) = icS M i from if_pos (by omega)]
    · rw [show stN M r (i + 1) = i + 1 from if_neg q]
theorem opn_c {M N : Me} {i : Nat} (h : ∀ j : Int, 0 ≤ j → j < i → N 434 j = M 434 j) : opn N i = opn M i := by
  have e := oaS_c (M := M) (N := N) i (fun j hj => h j (by omega) (by omega))
  have b := oaS_b (M := M) i
  unfold opn
  rw [e]
  split
  · rfl
  · exact h _ (by omega) (by omega)
theorem opn_sN {M : Me} {r : Int} (hr : 1 ≤ r) {i : Nat} : opn M (stN M r i) = opn M i := by
  unfold opn
  rw [oaS_sN hr i]
/-- a leaf read on both sides -/
theorem leaf_ok {C A : Me} {n : Nat} {x o : Int} {m : Nat} (hx : 15 ≤ x ∧ x ≤ 39) (h : ENT C A n x o m) (h7 : C 2 7 ≠ 0) {bd k v k0 v0 : Int} (hs : sdA A n = (-1, lfM A n m k0 v0)) (seg : ∀ (K T : Int → Int) (p c w : Int), K c = or32 (shl32 v 6) k → T (p + 2 * w) = k0 → T (p + 2 * w + 1) = v0 → SEG K T p c (c + 1) w (w + 1) bd 0) : RES C A n x o m 7 0 bd (1, goC (adC C x k v) n) := by
  have gd := h.gd
  obtain ⟨⟨h1, h2, h3⟩, h4, h5, ⟨h6, h6b⟩, h8, h9, h10, h18⟩ := h
  have tp := h2.2.1
  have lt := tp.2.2.2.1 h7
  have n3 := h1.2.2.1
  have c3 : C x 1 < 300 := by omega
  have eC := ad_e (k := k) (v := v) c3
  obtain ⟨t1, t2, t3⟩ := te_nx (C' := adC C x k v) (A' := emA A k0 v0) h1 h2 (fun a j q => by rw [eC]; exact (up_ne (by omega)).trans (up_ne (by omega))) (fun a j q => emA_o (by omega))
  obtain ⟨V, hV⟩ : ∃ V : Me, V = up (nxT (emA A k0 v0) n) 429 18 1 := ⟨_, rfl⟩
  have eL : lfM A n m k0 v0 = stl V 7 m := by rw [hV]; rfl
  have vo : ∀ a j : Int, ¬ (a = 429 ∧ ((7 ≤ j ∧ j ≤ 11) ∨ j = 18)) → V a j = emA A k0 v0 a j := fun a j q => by rw [hV]; exact (up_ne (by omega)).trans (nxT_o (by omega))
  have v13 : V 429 13 = A 429 13 + 1 := (vo 429 13 (by omega)).trans emA_13
  have v16 : V 429 16 = (m : Int) := (vo 429 16 (by omega)).trans ((emA_o (by omega)).trans h6)
  have v17 : V 429 17 = o := (vo 429 17 (by omega)).trans ((emA_o (by omega)).trans h8.1)
  have v434 : ∀ j : Int, V 434 j = A 434 j := fun j => (vo 434 j (by omega)).trans (emA_o (by omega))
  obtain ⟨s16, s13, s17, so⟩ := stl_all (r := 7) m V v16
  rw [eL] at hs
  obtain ⟨A', hA'⟩ : ∃ A' : Me, A' = stl V 7 m := ⟨_, rfl⟩
  rw [← hA'] at s16 s13 s17 so hs
  have a8 : A' 429 8 = nxT (emA A k0 v0) n 429 8 := (so 429 8 (by decide) (by omega)).trans (by rw [hV]; exact up_ne (by omega))
  have a434 : ∀ j : Int, A' 434 j = A 434 j := fun j => (so 434 j (by decide) (by omega)).trans (v434 j)
  have pA : pil A' = stN V 7 m := by unfold pil; rw [s16]; rfl
  have sl := stN_le (M := V) (r := 7) m
  have s12 : V 429 12 = A 429 12 := (vo 429 12 (by omega)).trans (emA_o (by omega))
  refine Or.inl ⟨(show (1 : Int) ≠ 0 by decide), A', V, Go.s gd hs (by omega), ?_⟩
  refine ⟨⟨t2.of ⟨rfl, fun _ => rfl⟩ ⟨?_, fun j => ?_⟩, t1.of (fun _ _ _ => rfl) (fun j q => ?_) (fun j => ?_), tv_go⟩, ⟨?_, ⟨by omega, by omega⟩, fun w => absurd w (by decide), fun _ => hA'⟩, ⟨by omega, by omega, by omega⟩, ?_, ⟨(FRC.ad (Int.le_refl _)).t FRC.go (Int.le_refl _), ?_, ?_⟩, ?_, ⟨v16, v17, by omega⟩, fun j _ _ => a434 j, ⟨?_, ?_⟩, fun r r1 r7 => ?_, ?_⟩
  · exact (so 429 4 (by decide) (by omega)).trans (by rw [hV]; exact up_ne (by omega))
  · exact (so 433 j (by decide) (by omega)).trans (by rw [hV]; exact up_ne (by omega))
  · exact (so 429 j (by decide) (by omega)).trans (by rw [hV]; exact up_ne (by omega))
  · exact (so 433 j (by decide) (by omega)).trans (by rw [hV]; exact up_ne (by omega))
  · exact (so 429 18 (by decide) (by omega)).trans (by rw [hV]; exact up_eq ⟨rfl, rfl⟩)
  · have e : goC (adC C x k v) n x 1 = C x 1 + 1 := (goC_o (by omega)).trans (by rw [eC]; exact up_eq ⟨rfl, rfl⟩)
    show C x 1 ≤ goC (adC C x k v) n x 1 ∧ goC (adC C x k v) n x 1 - C x 1 ≤ _
    rw [e]; omega
  · rw [hA', ← eL]; exact FR.lf
  · rw [hV]; exact (FR.em.tr FR.nx).tr (FR.up (by omega))
  · exact fun a j q1 q2 => (so a j q1 q2).symm
  · rw [pA, opn_c (M := V) (N := A') (fun j _ _ => so 434 j (by decide) (by omega)), opn_sN (by decide)]
    exact opn_c (fun j _ _ => v434 j)
  · rw [pA, if_neg (by decide), icS_c (M := V) (N := A') _ (fun j _ => so 434 j (by decide) (by omega)), icS_sN (by decide)]
    exact icS_c _ (fun j _ => v434 j)
  · rw [pA, hA']
    exact (stl_st (by omega) m V v16).symm
  · have e : goC (adC C x k v) n x 1 = C x 1 + 1 := (goC_o (by omega)).trans (by rw [eC]; exact up_eq ⟨rfl, rfl⟩)
    show SEG (goC (adC C x k v) n (x + 2)) (V 432) (A 429 12 + 97) (C x 1) (goC (adC C x k v) n x 1) (A 429 13) (V 429 13) bd 0
    rw [e, v13]
    refine seg _ _ _ _ _ ?_ ?_ ?_
    · exact (goC_o (by omega)).trans (by rw [eC]; exact (up_ne (by omega)).trans (up_eq ⟨rfl, rfl⟩))
    · rw [vo _ _ (by omega)]
      unfold emA
      exact (up_ne (by omega)).trans ((up_ne (by omega)).trans (up_eq ⟨rfl, rfl⟩))
    · rw [vo _ _ (by omega)]
      unfold emA
      exact (up_ne (by omega)).trans (up_eq ⟨rfl, rfl⟩)
/-- the names of both sides -/
theorem te_na {C A : Me} {n : Nat} (h : TE C A n) : naM A = if 25 ≤ C 2 7 ∧ C 2 7 ≤ 33 then sgm (C 2 7) else -1 := by
  have z1 := te_hour h
  have z2 := te_heat h
  have z3 := te_who h
  have z4 := te_skin h
  have z5 := te_year h
  have z6 := te_depth h
  have z7 := te_worth h
  have z8 := te_coins h
  have z9 := te_ties h
  unfold naM naO
  by_cases q : A 429 9 = 2
  · rw [if_neg (fun w => w q)]
    have c : ∀ {w k : Int}, ((A 429 9 = 2 ∧ A 429 11 = w) ↔ C 2 7 = k) → (A 429 11 = w ↔ C 2 7 = k) := fun z => ⟨fun e => z.mp ⟨q, e⟩, fun e => (z.mpr e).2⟩
    by_cases w1 : C 2 7 = 26
    · rw [if_pos ((c z1).mpr w1), w1]; decide
    rw [if_neg (fun e => w1 ((c z1).mp e))]
    by_cases w2 : C 2 7 = 25
    · rw [if_pos ((c z2).mpr w2), w2]; decide
    rw [if_neg (fun e => w2 ((c z2).mp e))]
    by_cases w3 : C 2 7 = 27
    · rw [if_pos ((c z3).mpr w3), w3]; decide
    rw [if_neg (fun e => w3 ((c z3).mp e))]
    by_cases w4 : C 2 7 = 28
    · rw [if_pos ((c z4).mpr w4), w4]; decide
    rw [if_neg (fun e => w4 ((c z4).mp e))]
    by_cases w5 : C 2 7 = 29
    · rw [if_pos ((c z5).mpr w5), w5]; decide
    rw [if_neg (fun e => w5 ((c z5).mp e))]
    by_cases w6 : C 2 7 = 30
    · rw [if_pos ((c z6).mpr w6), w6]; decide
    rw [if_neg (fun e => w6 ((c z6).mp e))]
    by_cases w7 : C 2 7 = 31
    · rw [if_pos ((c z7).mpr w7), w7]; decide
    rw [if_neg (fun e => w7 ((c z7).mp e))]
    by_cases w8 : C 2 7 = 32
    · rw [if_pos ((c z8).mpr w8), w8]; decide
    rw [if_neg (fun e => w8 ((c z8).mp e))]
    by_cases w9 : C 2 7 = 33
    · rw [if_pos ((c z9).mpr w9), w9]; decide
    rw [if_neg (fun e => w9 ((c z9).mp e)), if_neg (by omega)]
  · have q2 : ¬ (25 ≤ C 2 7 ∧ C 2 7 ≤ 33) := fun w => by
      rcases (show C 2 7 = 26 ∨ C 2 7 = 25 ∨ C 2 7 = 27 ∨ C 2 7 = 28 ∨ C 2 7 = 29 ∨ C 2 7 = 30 ∨ C 2 7 = 31 ∨ C 2 7 = 32 ∨ C 2 7 = 33 by omega) with z | z | z | z | z | z | z | z | z
      · exact q (z1.mpr z).1
      · exact q (z2.mpr z).1
      · exact q (z3.mpr z).1
      · exact q (z4.mpr z).1
      · exact q (z5.mpr z).1
      · exact q (z6.mpr z).1
      · exact q (z7.mpr z).1
      · exact q (z8.mpr z).1
      · exact q (z9.mpr z).1
    rw [if_pos q, if_neg q2]
/-- a number or a name, on both sides -/
theorem r_leaf {C A : Me} {n : Nat} {x o : Int} {m : Nat} (hx : 15 ≤ x ∧ x ≤ 39) (h : ENT C A n x o m) (hk : C 2 7 = 2 ∨ (25 ≤ C 2 7 ∧ C 2 7 ≤ 33)) : RES C A n x o m 7 0 (5 * o + 5) (leC C x n (C 2 7)) := by
  have gd := h.gd
  have hp := h.pl
  have h18 := h.2.2.2.2.2.2.2
  have t := h.1.2.1
  have ho := h.2.2.2.2.1
  have law := h.2.1
  have sg := te_sg t
  have na := te_na t
  unfold leC
  by_cases k2 : C 2 7 = 2
  · have a9 := sg.2.1.mpr k2
    have a10 := t.2.2.2 k2
    rw [if_neg (by omega)] at na
    by_cases q : 9999 < C 2 8
    · rw [if_pos ⟨k2, q⟩]
      have b := bg_2 (M := A) (n := n) (m := m) ⟨a9, by omega⟩
      exact Or.inr (FAIL.s t gd (by decide) (by decide) ((sd_b1 h18 hp (by rw [b.1]; decide)).trans (by rw [b.1, b.2])))
    · rw [if_neg (fun w => q w.2), if_neg (by omega)]
      have b := bg_n (M := A) (n := n) (m := m) (fun w => by have := w.2; omega) (fun w => by have := w.1; omega) a9
      refine leaf_ok hx h (by omega) (k := C 2 7) (v := C 2 8) (k0 := 0) (v0 := A 429 10) ((sd_b h18 hp b.1).trans (by rw [b.2])) (fun K T p c w e1 e2 e3 => ?_)
      rw [k2] at e1
      exact SEG.num (by omega) (by omega) (v := C 2 8) e1 e2 (by rw [e3]; omega)
  · have kk : 25 ≤ C 2 7 ∧ C 2 7 ≤ 33 := by omega
    rw [if_pos kk] at na
    have s9 := sgm_b kk.1 kk.2
    have a9 : A 429 9 ≠ 1 := fun w => k2 (sg.2.1.mp w)
    have ok : ¬ okN (naM A) (A 429 14) ↔ (C 2 7 = 32 ∧ C 2 9 ≠ 2) ∨ (C 2 7 = 33 ∧ C 2 9 = 0) := by
      rw [na, law]
      have e : (sgm (C 2 7) = 7 ↔ C 2 7 = 32) ∧ (sgm (C 2 7) = 8 ↔ C 2 7 = 33) := by unfold sgm; omega
      unfold okN
      omega
    rw [if_neg (fun w => k2 w.1)]
    by_cases q : (C 2 7 = 32 ∧ C 2 9 ≠ 2) ∨ (C 2 7 = 33 ∧ C 2 9 = 0)
    · rw [if_pos q]
      have b := bg_5 (M := A) (n := n) (m := m) (fun w => a9 w.1) ⟨by omega, ok.mpr q⟩
      exact Or.inr (FAIL.s t gd (by decide) (by decide) ((sd_b1 h18 hp (by rw [b.1]; decide)).trans (by rw [b.1, b.2])))
    · rw [if_neg q]
      have b := bg_a (M := A) (n := n) (m := m) (fun w => q (ok.mp w.2)) a9 (by omega)
      refine leaf_ok hx h (by omega) (k := C 2 7) (v := C 2 8) (k0 := 1) (v0 := naM A) ((sd_b h18 hp b.1).trans (by rw [b.2])) (fun K T p c w e1 e2 e3 => ?_)
      exact SEG.nam (by omega) h.1.2.2 kk e1 e2 (by rw [e3]; exact na)
