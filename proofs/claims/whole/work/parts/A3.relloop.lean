theorem SEG.w {K T : Int → Int} {p c0 c1 w0 w1 bd b2 tr : Int} (h : SEG K T p c0 c1 w0 w1 bd tr) (hb : b2 ≤ bd) : SEG K T p c0 c1 w0 w1 b2 tr := by
  obtain ⟨g, h1, h2, h3⟩ := h
  exact ⟨g, ⟨h1.1, fun K' len dp nm nk X n hK hl h0 hE n0 n1 => h1.2 K' len dp nm nk X n hK hl h0 hE n0 (by omega)⟩, ⟨h2.1, fun T' dp nm nk V H n k hT hE n0 n1 k0 k1 hV => h2.2 T' dp nm nk V H n k hT hE n0 (by omega) k0 (by omega) hV⟩, h3⟩
theorem PST.w {C A C' A' V : Me} {n : Nat} {x o : Int} {m : Nat} {ρ ρ2 tr bd b2 : Int} (h : PST C A C' A' V n x o m ρ tr bd) (hρ : ρ2 ≤ ρ) (h7 : ρ2 ≠ 7) (hb : b2 ≤ bd) (h17 : 0 ≤ A' 429 17 ∧ A' 429 17 ≤ 8) : PST C A C' A' V n x o m ρ2 tr b2 := by
  obtain ⟨h1, ⟨h2a, h2b, h2c, h2d⟩, h3, h4, h5, h6, h7a, h8, h9, h10, h11⟩ := h
  exact ⟨h1, ⟨h2a, h2b, fun _ => h17, fun w => absurd w h7⟩, h3, h4, h5, h6, h7a, h8, h9, fun r r1 r2 => h10 r r1 (by omega), h11.w hb⟩
/-- as opens are counted behind one whole part -/
theorem PST.o17 {C A C' A' V : Me} {n : Nat} {x o : Int} {m : Nat} {ρ tr bd : Int} (h : PST C A C' A' V n x o m ρ tr bd) (ho : 0 ≤ o ∧ o ≤ 8) (hρ : ρ ≤ 7) (htop : ρ = 7 → m = 0 ∨ rnk (A 434 ((m : Int) - 1)) < 7) : 0 ≤ A' 429 17 ∧ A' 429 17 ≤ 8 := by
  obtain ⟨-, ⟨-, -, h2c, h2d⟩, -, -, -, h6, h7, h8, -⟩ := h
  by_cases q : ρ = 7
  · have e := h2d q
    have t : stl V 7 m = V := stl_top (by
      rcases htop q with w | w
      · exact Or.inl w
      · by_cases z : m = 0
        · exact Or.inl z
        · refine Or.inr ?_
          rw [h6 434 _ (by decide) (by omega), h8 _ (by omega) (by omega)]; exact w)
    rw [e, t, h7.2.1]; exact ho
  · exact h2c (by omega)
theorem opn_1 {M : Me} {m : Nat} (h : M 434 (m : Int) < 40) : opn M (m + 1) = opn M m := by
  unfold opn
  rw [oaS_f (by omega)]
theorem psM_e {V : Me} {op : Int} {n m : Nat} (h : V 429 16 = (m : Int)) : psM V op n = nxT (up (up (up V 434 (m : Int) op) 429 16 ((m : Int) + 1)) 429 18 0) n := by
  unfold psM; rw [h]
/-- behind a whole part, a sign: the next part begins -/
theorem lp_it {C0 A0 C' A' V : Me} {n : Nat} {x o : Int} {m : Nat} {ρ tr bd : Int} (hx : 15 ≤ x ∧ x ≤ 39) (hE : ENT C0 A0 n x o m) (hP : PST C0 A0 C' A' V n x o m ρ tr bd) (h17 : 0 ≤ A' 429 17 ∧ A' 429 17 ≤ 8) {op R : Int} (hop : 0 ≤ op) (hb : bhO A' (pil A') = op) (hR : bhR A' (pil A') = R) (R1 : 1 ≤ R ∧ R ≤ ρ) (htop : m = 0 ∨ rnk (A0 434 ((m : Int) - 1)) < R) (h0 : C' 2 7 ≠ 0) (hm : m < 60) : Go n A' (psM V op n) ∧ ENT (goC C' n) (psM V op n) n x o (m + 1) ∧ psM V op n 434 (m : Int) = op ∧ (∀ j : Int, 0 ≤ j → j < m → psM V op n 434 j = A0 434 j) ∧ (∀ a j : Int, a ≠ 434 → ¬ (a = 429 ∧ ((7 ≤ j ∧ j ≤ 11) ∨ j = 16 ∨ j = 18)) → psM V op n a j = V a j) ∧ FR A0 (psM V op n) ∧ A' 429 8 + 1 ≤ psM V op n 429 8 := by
  obtain ⟨⟨e1, e2, e3⟩, e4, e5, ⟨e6, e6b⟩, e8, e9, e10, e18⟩ := hE
  obtain ⟨⟨p1, p2, p3⟩, ⟨p4, p5, -, -⟩, p7, p8, ⟨p9, p10, p11⟩, p12, ⟨p13, p14, p15⟩, p16, ⟨p17, p18⟩, p19, p20⟩ := hP
  have tp := p2.2.1
  have lt := tp.2.2.2.1 h0
  have n3 := p1.2.2.1
  have vtop : m = 0 ∨ rnk (V 434 ((m : Int) - 1)) < R := by
    rcases htop with w | w
    · exact Or.inl w
    · by_cases z : m = 0
      · exact Or.inl z
      · refine Or.inr ?_
        rw [p12 434 _ (by decide) (by omega), p16 _ (by omega) (by omega)]; exact w
  have sv : stl A' R (pil A') = V := (p19 R R1.1 R1.2).trans (stl_top vtop)
  have e16 : pil A' = (A' 429 16).toNat := rfl
  have ePM := psM_e (V := V) (op := op) (n := n) p13
  have wo : ∀ a j : Int, ¬ (a = 434 ∧ j = m) → ¬ (a = 429 ∧ (j = 16 ∨ j = 18)) → (up (up (up V 434 (m : Int) op) 429 16 ((m : Int) + 1)) 429 18 0) a j = V a j := fun a j q1 q2 => (up_ne (by omega)).trans ((up_ne (by omega)).trans (up_ne (by omega)))
  have sd : sdA A' n = (-1, psM V op n) := by
    unfold sdA
    rw [if_neg (by omega)]
    have bv : bhV A' (pil A') = 1 := if_pos (by rw [hb]; exact hop)
    rw [if_neg (by rw [bv]; decide)]
    have bm : bhM A' n (pil A') = psM (stl A' (bhR A' (pil A')) (pil A')) (bhO A' (pil A')) n := if_pos (by rw [hb]; exact hop)
    rw [bm, hR, hb, sv]
  obtain ⟨t1, t2, t3⟩ := te_nx (C' := C') (A' := up (up (up V 434 (m : Int) op) 429 16 ((m : Int) + 1)) 429 18 0) p1 p2 (fun _ _ _ => rfl) (fun a j q => (wo a j (by omega) (by omega)).trans (p12 a j (by omega) (by omega)))
  rw [← ePM] at t1 t2 t3
  have po : ∀ a j : Int, a ≠ 434 → ¬ (a = 429 ∧ ((7 ≤ j ∧ j ≤ 11) ∨ j = 16 ∨ j = 18)) → psM V op n a j = V a j := fun a j q1 q2 => by rw [ePM]; exact (nxT_o (by omega)).trans (wo a j (by omega) (by omega))
  have p434 : ∀ j : Int, j ≠ m → psM V op n 434 j = V 434 j := fun j q => by rw [ePM]; exact (nxT_o (by omega)).trans (wo 434 j (by omega) (by omega))
  have gd : GD A' n := ⟨p1.2.1, n3, ⟨by omega, tp.2.2.1⟩, by rw [p10.1 429 12 (by decide) (by omega) (by omega)]; exact e5, ⟨by omega, by omega, by omega⟩, by omega, h17⟩
  have f14 := p10.1 429 14 (by decide) (by omega) (by omega)
  have f12 := p10.1 429 12 (by decide) (by omega) (by omega)
  have c29 : C' 2 9 = C0 2 9 := p9 2 9 (by omega) (by omega) (by omega)
  have g1 : goC C' n x 1 = C' x 1 := goC_o (by omega)
  refine ⟨Go.s gd sd (by omega), ⟨⟨t2, t1, tv_go⟩, ?_, ?_, ⟨?_, by omega⟩, ⟨?_, e8.2⟩, ⟨?_, ?_⟩, ?_, ?_⟩, ?_, fun j a b => ?_, po, p11.tr FR.ps, by omega⟩
  · rw [po 429 14 (by decide) (by omega), p12 429 14 (by decide) (by omega), f14, e4, show goC C' n 2 9 = C' 2 9 from goC_o (by omega), c29]
  · rw [po 429 12 (by decide) (by omega), p12 429 12 (by decide) (by omega), f12]; exact e5
  · rw [ePM]; exact (nxT_o (by omega)).trans ((up_ne (by omega)).trans (up_eq ⟨rfl, rfl⟩))
  · rw [po 429 17 (by decide) (by omega)]; exact p14
  · rw [po 429 13 (by decide) (by omega)]
    have := p11.2
    omega
  · rw [po 429 13 (by decide) (by omega)]; omega
  · rw [g1]; omega
  · rw [ePM]; exact (nxT_o (by omega)).trans (up_eq ⟨rfl, rfl⟩)
  · rw [ePM]; exact (nxT_o (by omega)).trans ((up_ne (by omega)).trans ((up_ne (by omega)).trans (up_eq ⟨rfl, rfl⟩)))
  · rw [p434 j (by omega), p12 434 j (by decide) (by omega)]; exact p16 j a b
/-- two parts and the sign between, whole -/
theorem lp_fin {C0 A0 C' A' V C3 A3 V3 : Me} {n : Nat} {x o : Int} {m : Nat} {ρ tr bd ρ3 tr3 ρf trf : Int} (hx : 15 ≤ x ∧ x ≤ 39) (hE : ENT C0 A0 n x o m) (hP : PST C0 A0 C' A' V n x o m ρ tr bd) {op tok : Int} (hI : psM V op n 434 (m : Int) = op ∧ (∀ j : Int, 0 ≤ j → j < m → psM V op n 434 j = A0 434 j) ∧ (∀ a j : Int, a ≠ 434 → ¬ (a = 429 ∧ ((7 ≤ j ∧ j ≤ 11) ∨ j = 16 ∨ j = 18)) → psM V op n a j = V a j) ∧ FR A0 (psM V op n) ∧ A' 429 8 + 1 ≤ psM V op n 429 8) (hQ : PST (goC C' n) (psM V op n) C3 A3 V3 n x o (m + 1) ρ3 tr3 (bd + 1)) (h17 : 0 ≤ A3 429 17 ∧ A3 429 17 ≤ 8) (op40 : op < 40) (hf : ρf ≤ ρ3 ∧ ρf ≤ rnk op ∧ ρf ≤ 6) (op7 : ¬ (rnk op = 7 ∨ op = 20)) (hic : icS A3 (pil A3) = if trf = 1 then 1 else icS A0 m) (seg : ∀ (K T : Int → Int) (p c0 c1 c2 w0 w1 w2 : Int), SEG K T p c0 c1 w0 w1 bd tr → SEG K T p c1 c2 w1 w2 (bd + 1) tr3 → K c2 = or32 (shl32 0 6) tok → T (p + 2 * w2) = op → SEG K T p c0 (c2 + 1) w0 (w2 + 1) bd trf) : PST C0 A0 (adC C3 x tok 0) A3 (tpA V3 m) n x o m ρf trf bd := by
  obtain ⟨⟨e1, e2, e3⟩, e4, e5, ⟨e6, e6b⟩, e8, e9, e10, e18⟩ := hE
  obtain ⟨⟨p1, p2, p3⟩, ⟨p4, p5, -, -⟩, p7, p8, ⟨p9, p10, p11⟩, p12, ⟨p13, p14, p15⟩, p16, ⟨p17, p18⟩, p19, p20⟩ := hP
  obtain ⟨i1, i2, i3, i4, i5⟩ := hI
  obtain ⟨⟨q1, q2, q3⟩, ⟨q4, q5, -, -⟩, q7, q8, ⟨q9, q10, q11⟩, q12, ⟨q13, q14, q15⟩, q16, ⟨q17, q18⟩, q19, q20⟩ := hQ
  have g1 : goC C' n x 1 = C' x 1 := goC_o (by omega)
  rw [g1] at q8 q9 q20
  have s13 : psM V op n 429 13 = V 429 13 := i3 429 13 (by decide) (by omega)
  have s12 : psM V op n 429 12 = A0 429 12 := (i3 429 12 (by decide) (by omega)).trans ((p12 429 12 (by decide) (by omega)).trans (p10.1 429 12 (by decide) (by omega) (by omega)))
  rw [s13] at q7 q20
  rw [s12] at q20
  have n3 := q1.2.2.1
  have tp := q2.2.1
  have c3 : C3 x 1 < 300 := by omega
  have eC := ad_e (M := C3) (x := x) (k := tok) (v := 0) c3
  have v3m : V3 434 (m : Int) = op := by rw [q12 434 _ (by decide) (by omega), q16 _ (by omega) (by omega)]; exact i1
  have co : ∀ a j : Int, ¬ (a = x ∧ j = 1) → ¬ (a = x + 2 ∧ j = C3 x 1) → adC C3 x tok 0 a j = C3 a j := fun a j w1 w2 => by rw [eC]; exact (up_ne w1).trans (up_ne w2)
  have cx : adC C3 x tok 0 x 1 = C3 x 1 + 1 := by rw [eC]; exact up_eq ⟨rfl, rfl⟩
  have fr : FRC x (C0 x 1) C0 C3 := (p9.t (FRC.go (n := n)) (Int.le_refl _)).t q9 p8.1
  have fR : FR A0 A3 := i4.tr q10
  have v12 : V3 429 12 = A0 429 12 := by rw [q11.1 429 12 (by decide) (by omega) (by omega), s12]
  refine ⟨⟨q1.of ⟨co 2 0 (by omega) (by omega), fun j => co 3 j (by omega) (by omega)⟩ ⟨rfl, fun _ => rfl⟩, q2.of (fun j a b => co 2 j (by omega) (by omega)) (fun _ _ => rfl) (fun _ => rfl), by rw [co 2 8 (by omega) (by omega)]; exact q3⟩, ⟨q4, q5, fun _ => h17, fun w => by omega⟩, ⟨by omega, by omega, fR.2⟩, ?_, ⟨fr.t (FRC.ad (Int.le_refl _)) (by omega), fR, (i4.tr q11).tr FR.tp⟩, fun a j w1 w2 => (tpA_o (by omega)).trans (q12 a j w1 w2), ⟨tpA_16, (tpA_o (by omega)).trans q14, ?_⟩, fun j a b => ?_, ⟨?_, hic⟩, fun r r1 r2 => ?_, ?_⟩
  · rw [cx]; omega
  · rw [tpA_13]; omega
  · rw [q16 j a (by omega)]; exact i2 j a b
  · rw [q17, opn_1 (by rw [i1]; exact op40)]
    exact opn_c (fun j a b => i2 j a b)
  · rw [q19 r r1 (by omega), stl_t (N := tpA V3 m) (by rw [v3m]; omega) (by rw [v3m, if_neg op7])]
  · rw [cx, tpA_13]
    have k0 : ∀ i : Int, C0 x 1 ≤ i → i < C' x 1 → adC C3 x tok 0 (x + 2) i = C' (x + 2) i := fun i a b => by
      rw [co _ _ (by omega) (by omega), q9 _ _ (by omega) (by omega) (by omega)]
      exact goC_o (by omega)
    have t0 : ∀ j : Int, j < A0 429 12 + 97 + 2 * V3 429 13 → tpA V3 m 432 j = V3 432 j := fun j b => (FR.tp (M := V3) (i := m)).1 432 j (by decide) (by omega) (fun _ => by rw [v12]; exact b)
    have v13 := q11.2
    rw [s13] at v13
    have t1 : ∀ j : Int, j < A0 429 12 + 97 + 2 * V 429 13 → tpA V3 m 432 j = V 432 j := fun j b => by
      rw [t0 j (by omega), q11.1 432 j (by decide) (by omega) (fun _ => by rw [s12, s13]; exact b)]
      exact i3 432 j (by decide) (by omega)
    refine seg _ _ _ (C0 x 1) (C' x 1) (C3 x 1) (A0 429 13) (V 429 13) (V3 429 13) (p20.c k0 (fun i a b => t1 i b)) (q20.c (fun i a b => co _ _ (by omega) (by omega)) (fun i a b => t0 i b)) ?_ ?_
    · rw [eC]; exact (up_ne (by omega)).trans (up_eq ⟨rfl, rfl⟩)
    · unfold tpA emA
      rw [up_ne (show ¬ ((432 : Int) = 429 ∧ A0 429 12 + 97 + 2 * V3 429 13 = 13) by omega), up_ne (by rw [up_ne (by omega), up_ne (by omega), v12]; omega), up_ne (show ¬ ((429 : Int) = 429 ∧ (12 : Int) = 16) by omega), up_ne (show ¬ ((429 : Int) = 429 ∧ (13 : Int) = 16) by omega), v12]
      exact (up_eq ⟨rfl, rfl⟩).trans v3m
