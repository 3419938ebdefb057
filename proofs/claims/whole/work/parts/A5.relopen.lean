theorem opM_434 {A : Me} {v : Int} {m : Nat} (h : A 429 16 = (m : Int)) : opM A v = up (up (up A 429 17 (A 429 17 + 1)) 434 (m : Int) v) 429 16 ((m : Int) + 1) := by unfold opM; rw [h]
/-- something is opened on both sides -/
theorem ent_op {C A : Me} {n : Nat} {x o : Int} {m : Nat} (hx : 15 ≤ x ∧ x ≤ 39) (hE : ENT C A n x o m) (h7 : C 2 7 ≠ 0) {v : Int} (hv : bgO A m = v) (v0 : v ≠ 0) (hn : naM A < 0) (h1 : A 429 9 ≠ 1) (ho : o < 8) (hm : m < 60) : Go n A (nxT (opM A v) n) ∧ ENT (goC C n) (nxT (opM A v) n) n x (o + 1) (m + 1) ∧ nxT (opM A v) n 434 (m : Int) = v ∧ (∀ j : Int, 0 ≤ j → j < m → nxT (opM A v) n 434 j = A 434 j) ∧ (∀ a j : Int, a ≠ 434 → ¬ (a = 429 ∧ ((7 ≤ j ∧ j ≤ 11) ∨ j = 16 ∨ j = 17)) → nxT (opM A v) n a j = A a j) ∧ FR A (nxT (opM A v) n) ∧ A 429 8 + 1 ≤ nxT (opM A v) n 429 8 := by
  have gd := hE.gd
  have hp := hE.pl
  obtain ⟨⟨e1, e2, e3⟩, e4, e5, ⟨e6, e6b⟩, e8, e9, e10, e18⟩ := hE
  have tp := e2.2.1
  have lt := tp.2.2.2.1 h7
  have b := bg_o (M := A) (n := n) (m := m) h1 hn hv v0
  have bv : bgV A m = 0 := by rw [b.1]; exact if_neg (by omega)
  have bm : bgM A n m = nxT (opM A v) n := b.2.trans (if_neg (by omega))
  have eo := opM_434 (v := v) e6
  have wo : ∀ a j : Int, ¬ (a = 434 ∧ j = m) → ¬ (a = 429 ∧ (j = 16 ∨ j = 17)) → opM A v a j = A a j := fun a j q1 q2 => by rw [eo]; exact (up_ne (by omega)).trans ((up_ne (by omega)).trans (up_ne (by omega)))
  obtain ⟨t1, t2, t3⟩ := te_nx (C' := C) (A' := opM A v) e1 e2 (fun _ _ _ => rfl) (fun a j q => wo a j (by omega) (by omega))
  have po : ∀ a j : Int, a ≠ 434 → ¬ (a = 429 ∧ ((7 ≤ j ∧ j ≤ 11) ∨ j = 16 ∨ j = 17)) → nxT (opM A v) n a j = A a j := fun a j q1 q2 => (nxT_o (by omega)).trans (wo a j (by omega) (by omega))
  have g1 : goC C n x 1 = C x 1 := goC_o (by omega)
  have fr : FR A (nxT (opM A v) n) := by
    have := FR.oq (M := A) (v := v) (n := n)
    rwa [show oqM A v n = nxT (opM A v) n from if_neg (by omega)] at this
  refine ⟨Go.s gd ((sd_b e18 hp bv).trans (by rw [bm])) (by omega), ⟨⟨t2, t1, tv_go⟩, ?_, ?_, ⟨?_, by omega⟩, ⟨?_, by omega, by omega⟩, ⟨?_, ?_⟩, ?_, ?_⟩, ?_, fun j a b => ?_, po, fr, by omega⟩
  · rw [po 429 14 (by decide) (by omega), e4]; exact (goC_o (by omega)).symm
  · rw [po 429 12 (by decide) (by omega)]; exact e5
  · exact (nxT_o (by omega)).trans (by rw [eo]; exact up_eq ⟨rfl, rfl⟩)
  · exact (nxT_o (by omega)).trans (by rw [eo]; exact (up_ne (by omega)).trans ((up_ne (by omega)).trans ((up_eq ⟨rfl, rfl⟩).trans (by omega))))
  · rw [po 429 13 (by decide) (by omega)]; exact e9.1
  · rw [po 429 13 (by decide) (by omega)]; omega
  · rw [g1]; omega
  · rw [po 429 18 (by decide) (by omega)]; exact e18
  · exact (nxT_o (by omega)).trans (by rw [eo]; exact (up_ne (by omega)).trans (up_eq ⟨rfl, rfl⟩))
  · exact (nxT_o (by omega)).trans (wo 434 j (by omega) (by omega))
/-- what was opened before one part only, whole -/
theorem un_fin {C A C3 A3 V3 : Me} {n : Nat} {x o : Int} {m : Nat} (hx : 15 ≤ x ∧ x ≤ 39) (hE : ENT C A n x o m) {v tok ρ tr bd b3 : Int} (hI : nxT (opM A v) n 434 (m : Int) = v ∧ (∀ j : Int, 0 ≤ j → j < m → nxT (opM A v) n 434 j = A 434 j) ∧ (∀ a j : Int, a ≠ 434 → ¬ (a = 429 ∧ ((7 ≤ j ∧ j ≤ 11) ∨ j = 16 ∨ j = 17)) → nxT (opM A v) n a j = A a j) ∧ FR A (nxT (opM A v) n) ∧ A 429 8 + 1 ≤ nxT (opM A v) n 429 8) (hQ : PST (goC C n) (nxT (opM A v) n) C3 A3 V3 n x (o + 1) (m + 1) ρ tr b3) (v40 : v < 40) (hv : rnk v = 7 ∨ v = 20) (hρ : ρ ≤ rnk v) (hb : bd ≤ b3) (hic : icS A3 (pil A3) = if tr = 1 then 1 else icS A m) (seg : ∀ (K T : Int → Int) (p c0 c1 w0 w1 : Int), SEG K T p c0 c1 w0 w1 bd tr → K c1 = or32 (shl32 0 6) tok → T (p + 2 * w1) = v → SEG K T p c0 (c1 + 1) w0 (w1 + 1) bd tr) : PST C A (adC C3 x tok 0) A3 (up (tpA V3 m) 429 17 (tpA V3 m 429 17 - 1)) n x o m ρ tr bd := by
  obtain ⟨⟨e1, e2, e3⟩, e4, e5, ⟨e6, e6b⟩, e8, e9, e10, e18⟩ := hE
  obtain ⟨i1, i2, i3, i4, i5⟩ := hI
  obtain ⟨⟨q1, q2, q3⟩, ⟨q4, q5, q6a, q6b⟩, q7, q8, ⟨q9, q10, q11⟩, q12, ⟨q13, q14, q15⟩, q16, ⟨q17, q18⟩, q19, q20⟩ := hQ
  have g1 : goC C n x 1 = C x 1 := goC_o (by omega)
  rw [g1] at q8 q9 q20
  have s13 : nxT (opM A v) n 429 13 = A 429 13 := i3 429 13 (by decide) (by omega)
  have s12 : nxT (opM A v) n 429 12 = A 429 12 := i3 429 12 (by decide) (by omega)
  rw [s13] at q7 q20
  rw [s12] at q20
  have n3 := q1.2.2.1
  have tp := q2.2.1
  have c3 : C3 x 1 < 300 := by omega
  have eC := ad_e (M := C3) (x := x) (k := tok) (v := 0) c3
  have v3m : V3 434 (m : Int) = v := by rw [q12 434 _ (by decide) (by omega), q16 _ (by omega) (by omega)]; exact i1
  have co : ∀ a j : Int, ¬ (a = x ∧ j = 1) → ¬ (a = x + 2 ∧ j = C3 x 1) → adC C3 x tok 0 a j = C3 a j := fun a j w1 w2 => by rw [eC]; exact (up_ne w1).trans (up_ne w2)
  have cx : adC C3 x tok 0 x 1 = C3 x 1 + 1 := by rw [eC]; exact up_eq ⟨rfl, rfl⟩
  have fr : FRC x (C x 1) C C3 := (FRC.go (n := n)).t q9 (Int.le_refl _)
  have fR : FR A A3 := i4.tr q10
  have v12 : V3 429 12 = A 429 12 := by rw [q11.1 429 12 (by decide) (by omega) (by omega), s12]
  obtain ⟨N, hN⟩ : ∃ N : Me, N = up (tpA V3 m) 429 17 (tpA V3 m 429 17 - 1) := ⟨_, rfl⟩
  rw [← hN]
  have st : ∀ r : Int, r ≤ rnk v → stl V3 r (m + 1) = stl N r m := fun r hr => stl_t (by rw [v3m]; exact hr) (by rw [v3m, if_pos hv, hN])
  have no : ∀ a j : Int, ¬ (a = 429 ∧ j = 17) → N a j = tpA V3 m a j := fun a j q => by rw [hN]; exact up_ne q
  have n17 : N 429 17 = o := by rw [hN, up_eq ⟨rfl, rfl⟩, tpA_o (by omega), q14]; omega
  refine ⟨⟨q1.of ⟨co 2 0 (by omega) (by omega), fun j => co 3 j (by omega) (by omega)⟩ ⟨rfl, fun _ => rfl⟩, q2.of (fun j a b => co 2 j (by omega) (by omega)) (fun _ _ => rfl) (fun _ => rfl), by rw [co 2 8 (by omega) (by omega)]; exact q3⟩, ⟨q4, q5, q6a, fun w => (q6b w).trans (st 7 (by omega))⟩, ⟨by omega, by omega, fR.2⟩, ?_, ⟨fr.t (FRC.ad (Int.le_refl _)) (by omega), fR, ?_⟩, fun a j w1 w2 => (no a j (by omega)).trans ((tpA_o (by omega)).trans (q12 a j w1 w2)), ⟨(no 429 16 (by omega)).trans tpA_16, n17, ?_⟩, fun j a b => ?_, ⟨?_, hic⟩, fun r r1 r2 => ?_, ?_⟩
  · rw [cx]; omega
  · rw [hN]; exact ((i4.tr q11).tr FR.tp).tr (FR.up (by omega))
  · rw [no 429 13 (by omega), tpA_13]; omega
  · rw [q16 j a (by omega)]; exact i2 j a b
  · rw [q17, opn_1 (by rw [i1]; exact v40)]
    exact opn_c (fun j a b => i2 j a b)
  · rw [q19 r r1 (by omega)]; exact st r (by omega)
  · rw [cx, no 429 13 (by omega), tpA_13]
    have t0 : ∀ j : Int, j < A 429 12 + 97 + 2 * V3 429 13 → N 432 j = V3 432 j := fun j b => (no 432 j (by omega)).trans ((FR.tp (M := V3) (i := m)).1 432 j (by decide) (by omega) (fun _ => by rw [v12]; exact b))
    refine seg _ _ _ (C x 1) (C3 x 1) (A 429 13) (V3 429 13) ((q20.w hb).c (fun i a b => co _ _ (by omega) (by omega)) (fun i a b => t0 i b)) ?_ ?_
    · rw [eC]; exact (up_ne (by omega)).trans (up_eq ⟨rfl, rfl⟩)
    · rw [no 432 _ (by omega)]
      unfold tpA emA
      rw [up_ne (show ¬ ((432 : Int) = 429 ∧ A 429 12 + 97 + 2 * V3 429 13 = 13) by omega), up_ne (by rw [up_ne (by omega), up_ne (by omega), v12]; omega), up_ne (show ¬ ((429 : Int) = 429 ∧ (12 : Int) = 16) by omega), up_ne (show ¬ ((429 : Int) = 429 ∧ (13 : Int) = 16) by omega), v12]
      exact (up_eq ⟨rfl, rfl⟩).trans v3m
/-- a state that is whole may be looked at -/
theorem PST.gd {C A C' A' V : Me} {n : Nat} {x o : Int} {m : Nat} {ρ tr bd : Int} (hE : ENT C A n x o m) (h : PST C A C' A' V n x o m ρ tr bd) (h17 : 0 ≤ A' 429 17 ∧ A' 429 17 ≤ 8) : GD A' n := by
  obtain ⟨⟨e1, e2, e3⟩, e4, e5, ⟨e6, e6b⟩, e8, e9, e10, e18⟩ := hE
  obtain ⟨⟨p1, p2, p3⟩, ⟨p4, p5, -, -⟩, p7, p8, ⟨p9, p10, p11⟩, -⟩ := h
  have tp := p2.2.1
  have n3 := p1.2.2.1
  exact ⟨p1.2.1, n3, ⟨by omega, tp.2.2.1⟩, by rw [p10.1 429 12 (by decide) (by omega) (by omega)]; exact e5, ⟨by omega, by omega, by omega⟩, by omega, h17⟩
theorem sd_e {A : Me} {n : Nat} (h : A 429 18 = 1) (hO : bhO A (pil A) < 0) (hP : bhP A (pil A) < 0) : sdA A n = if opn A (pil A) < 0 then (0, stl A 1 (pil A)) else (1, A) := by
  unfold sdA
  rw [if_neg (by omega)]
  have bv : bhV A (pil A) = 0 := (if_neg (by omega)).trans (if_pos hP)
  rw [if_pos bv]
/-- the token at hand can't stand behind what is whole -/
theorem no_part {C A C' A' V : Me} {n : Nat} {x o : Int} {m : Nat} {ρ tr bd : Int} (hE : ENT C A n x o m) (h : PST C A C' A' V n x o m ρ tr bd) (hg : Go n A A') (h17 : 0 ≤ A' 429 17 ∧ A' 429 17 ≤ 8) (hO : bhO A' (pil A') < 0) (hP : bhP A' (pil A') < 0) (ho : 0 ≤ opn A' (pil A')) : FAIL A n (0, rfC C' 1) :=
  (FAIL.s h.1.2.1 (h.gd hE h17) (by decide) (by decide) ((sd_e h.2.1.1 hO hP).trans (if_neg (by omega)))).t hg
