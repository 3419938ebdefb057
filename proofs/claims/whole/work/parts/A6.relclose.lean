theorem adT {C : Me} {x k v : Int} (hx : 15 ≤ x) {a : Int} (h : a < 15) : ∀ j : Int, adC C x k v a j = C a j := fun _ => adC_o hx h
/-- what is open goes on to its next part -/
theorem op_nx {C0 A0 C' A' V : Me} {n : Nat} {x o : Int} {m : Nat} {ρ tr bd : Int} (hx : 15 ≤ x ∧ x ≤ 39) (hE : ENT C0 A0 n x o m) (hP : PST C0 A0 C' A' V n x o m ρ tr bd) (h17 : 0 ≤ A' 429 17 ∧ A' 429 17 ≤ 8) (hρ : 1 ≤ ρ) (m1 : 1 ≤ m) (htop : 40 ≤ A0 434 ((m : Int) - 1)) {v tok : Int} (hO : bhO A' (pil A') < 0) (hPa : bhP A' (pil A') = v) (hv : 40 ≤ v) (h0 : C' 2 7 ≠ 0) : ∃ A4 : Me, Go n A' A4 ∧ ENT (goC (adC C' x tok 0) n) A4 n x o m ∧ A4 434 ((m : Int) - 1) = v ∧ (∀ j : Int, 0 ≤ j → j < (m : Int) - 1 → A4 434 j = A0 434 j) ∧ (∀ a j : Int, a ≠ 434 → ¬ (a = 429 ∧ ((7 ≤ j ∧ j ≤ 11) ∨ j = 18)) → A4 a j = V a j) ∧ FR A0 A4 ∧ A' 429 8 + 1 ≤ A4 429 8 ∧ C' x 1 < 300 := by
  have gd := hP.gd hE h17
  obtain ⟨⟨e1, e2, e3⟩, e4, e5, ⟨e6, e6b⟩, e8, e9, e10, e18⟩ := hE
  obtain ⟨⟨p1, p2, p3⟩, ⟨p4, p5, -, -⟩, p7, p8, ⟨p9, p10, p11⟩, p12, ⟨p13, p14, p15⟩, p16, ⟨p17, p18⟩, p19, p20⟩ := hP
  have tp := p2.2.1
  have lt := tp.2.2.2.1 h0
  have n3 := p1.2.2.1
  have c3 : C' x 1 < 300 := by omega
  have eC := ad_e (M := C') (x := x) (k := tok) (v := 0) c3
  have v434 : V 434 ((m : Int) - 1) = A0 434 ((m : Int) - 1) := by rw [p12 434 _ (by decide) (by omega), p16 _ (by omega) (by omega)]
  have sv : stl A' 1 (pil A') = V := (p19 1 (Int.le_refl 1) hρ).trans (stl_top (Or.inr (by
    rw [v434]
    have : rnk (A0 434 ((m : Int) - 1)) = 0 := if_pos htop
    omega)))
  have a16 : A' 429 16 = ((pil A' : Nat) : Int) := by unfold pil; omega
  have sN : stN A' 1 (pil A') = m := by
    have := (stl_all (r := 1) (pil A') A' a16).1
    rw [sv, p13] at this
    omega
  have oa : oaS (nxT V n) m = (m : Int) - 1 := by
    obtain ⟨k, rfl⟩ : ∃ k : Nat, m = k + 1 := ⟨m - 1, by omega⟩
    rw [oaS_t (by
      rw [nxT_o (by omega)]
      have e : ((k + 1 : Nat) : Int) - 1 = (k : Int) := by omega
      rw [e] at v434 htop
      rw [v434]; exact htop)]
    omega
  obtain ⟨t1, t2, t3⟩ := te_nx (C' := adC C' x tok 0) (A' := V) p1 p2 (fun a j q => adT hx.1 (by omega) j) (fun a j q => p12 a j (by omega) (by omega))
  obtain ⟨A4, hA4⟩ : ∃ A4 : Me, A4 = up (up (nxT V n) 434 ((m : Int) - 1) v) 429 18 0 := ⟨_, rfl⟩
  have sd : sdA A' n = (-1, A4) := by
    unfold sdA
    rw [if_neg (by omega)]
    have bv : bhV A' (pil A') = 1 := (if_neg (by omega)).trans (if_neg (by omega))
    rw [if_neg (by rw [bv]; decide)]
    have b1 : bh1 A' n (pil A') = nxT V n := by unfold bh1; rw [sv]
    have bm : bhM A' n (pil A') = up (up (bh1 A' n (pil A')) 434 (oaS (bh1 A' n (pil A')) (stN A' 1 (pil A'))) (bhP A' (pil A'))) 429 18 0 := (if_neg (by omega)).trans ((if_neg (by omega)).trans (if_pos (by omega)))
    rw [bm, b1, sN, oa, hPa, hA4]
  have wo : ∀ a j : Int, ¬ (a = 434 ∧ j = (m : Int) - 1) → ¬ (a = 429 ∧ j = 18) → A4 a j = nxT V n a j := fun a j q1 q2 => by rw [hA4]; exact (up_ne (by omega)).trans (up_ne (by omega))
  have po : ∀ a j : Int, a ≠ 434 → ¬ (a = 429 ∧ ((7 ≤ j ∧ j ≤ 11) ∨ j = 18)) → A4 a j = V a j := fun a j q1 q2 => (wo a j (by omega) (by omega)).trans (nxT_o (by omega))
  have a8 : A4 429 8 = nxT V n 429 8 := wo 429 8 (by omega) (by omega)
  have f14 := p10.1 429 14 (by decide) (by omega) (by omega)
  have f12 := p10.1 429 12 (by decide) (by omega) (by omega)
  have c29 : C' 2 9 = C0 2 9 := p9 2 9 (by omega) (by omega) (by omega)
  have g1 : goC (adC C' x tok 0) n x 1 = C' x 1 + 1 := (goC_o (by omega)).trans (by rw [eC]; exact up_eq ⟨rfl, rfl⟩)
  refine ⟨A4, Go.s gd sd (by omega), ⟨⟨t2.of ⟨rfl, fun _ => rfl⟩ ⟨wo 429 4 (by omega) (by omega), fun j => wo 433 j (by omega) (by omega)⟩, t1.of (fun _ _ _ => rfl) (fun j q => wo 429 j (by omega) (by omega)) (fun j => wo 433 j (by omega) (by omega)), tv_go⟩, ?_, ?_, ⟨(po 429 16 (by decide) (by omega)).trans p13, e6b⟩, ⟨(po 429 17 (by decide) (by omega)).trans p14, e8.2⟩, ⟨?_, ?_⟩, ?_, ?_⟩, ?_, fun j a b => ?_, po, ?_, by omega, c3⟩
  · rw [po 429 14 (by decide) (by omega), p12 429 14 (by decide) (by omega), f14, e4, show goC (adC C' x tok 0) n 2 9 = C' 2 9 from (goC_o (by omega)).trans (adC_o hx.1 (by decide)), c29]
  · rw [po 429 12 (by decide) (by omega), p12 429 12 (by decide) (by omega), f12]; exact e5
  · rw [po 429 13 (by decide) (by omega)]; have := p11.2; omega
  · rw [po 429 13 (by decide) (by omega)]; omega
  · rw [g1]; omega
  · rw [hA4]; exact up_eq ⟨rfl, rfl⟩
  · rw [hA4]; exact (up_ne (by omega)).trans (up_eq ⟨rfl, rfl⟩)
  · rw [wo 434 j (by omega) (by omega), nxT_o (by omega), p12 434 j (by decide) (by omega)]; exact p16 j a (by omega)
  · rw [hA4]; exact ((p11.tr FR.nx).tr (FR.up (by omega))).tr (FR.up (by omega))
/-- what is open is shut -/
theorem cl_nx {C A C5 A5 C' A' V Cy : Me} {n : Nat} {x o : Int} {m : Nat} {ρ tr b3 bd : Int} (hx : 15 ≤ x ∧ x ≤ 39) (hE : ENT C A n x o m) (hE5 : ENT C5 A5 n x (o + 1) (m + 1)) (hP : PST C5 A5 C' A' V n x (o + 1) (m + 1) ρ tr b3) (h17 : 0 ≤ A' 429 17 ∧ A' 429 17 ≤ 8) (hρ : 1 ≤ ρ) (hv : 40 ≤ A5 434 (m : Int)) (hO : bhO A' (pil A') < 0) (hPa : bhP A' (pil A') = 0) (h0 : C' 2 7 ≠ 0) (hgo : Go n A A') (hFR : FR A A') (hFV : FR A V) (h434 : ∀ j : Int, 0 ≤ j → j < m → A' 434 j = A 434 j) (h8 : A 429 8 < A' 429 8) (hgr : A' 429 13 + A' 429 16 - (A 429 13 + m) ≤ A' 429 8 - A 429 8) (hCy : (∀ j : Int, Cy 2 j = C' 2 j) ∧ ∀ j : Int, Cy 3 j = C' 3 j) (hFC : FRC x (C x 1) C Cy) (hc : C x 1 ≤ Cy x 1 ∧ Cy x 1 - C x 1 ≤ A' 429 8 - A 429 8) (seg : ∀ T : Int → Int, (∀ j : Int, j < A 429 12 + 97 + 2 * V 429 13 → T j = V 432 j) → (opn A' (pil A') = 43 → T (A 429 12 + 97 + 2 * V 429 13) = 4) → SEG (Cy (x + 2)) T (A 429 12 + 97) (C x 1) (Cy x 1) (A 429 13) (if opn A' (pil A') = 43 then V 429 13 + 1 else V 429 13) bd 0) : ∃ A2 W : Me, Go n A A2 ∧ PST C A (goC Cy n) A2 W n x o m 7 0 bd := by
  have gd := hP.gd hE5 h17
  have hp5 := hE5.2.2.2.1
  obtain ⟨⟨e1, e2, e3⟩, e4, e5, ⟨e6, e6b⟩, e8, e9, e10, e18⟩ := hE
  obtain ⟨⟨p1, p2, p3⟩, ⟨p4, p5, -, -⟩, p7, p8, ⟨p9, p10, p11⟩, p12, ⟨p13, p14, p15⟩, p16, ⟨p17, p18⟩, p19, p20⟩ := hP
  have tp := p2.2.1
  have lt := tp.2.2.2.1 h0
  have v434 : V 434 (m : Int) = A5 434 (m : Int) := by rw [p12 434 _ (by decide) (by omega), p16 _ (by omega) (by omega)]
  have sv : stl A' 1 (pil A') = V := (p19 1 (Int.le_refl 1) hρ).trans (stl_top (Or.inr (by
    rw [show ((m + 1 : Nat) : Int) - 1 = (m : Int) by omega, v434]
    have : rnk (A5 434 (m : Int)) = 0 := if_pos hv
    omega)))
  have a16 : A' 429 16 = ((pil A' : Nat) : Int) := by unfold pil; omega
  have sN : stN A' 1 (pil A') = m + 1 := by
    have := (stl_all (r := 1) (pil A') A' a16).1
    rw [sv, p13] at this
    omega
  have v12 : V 429 12 = A 429 12 := hFV.1 429 12 (by decide) (by omega) (by omega)
  obtain ⟨t1, t2, t3⟩ := te_nx (C' := Cy) (A' := V) p1 p2 (fun a j q => by
    rcases q with ⟨q, -⟩ | q
    · subst q; exact hCy.1 j
    · subst q; exact hCy.2 j) (fun a j q => p12 a j (by omega) (by omega))
  obtain ⟨U, hU⟩ : ∃ U : Me, U = up (up (nxT V n) 429 17 o) 429 16 (m : Int) := ⟨_, rfl⟩
  obtain ⟨W, hW⟩ : ∃ W : Me, W = if opn A' (pil A') = 43 then emA U 4 0 else U := ⟨_, rfl⟩
  have uo : ∀ a j : Int, ¬ (a = 429 ∧ (j = 16 ∨ j = 17)) → U a j = nxT V n a j := fun a j q => by rw [hU]; exact (up_ne (by omega)).trans (up_ne (by omega))
  have wo : ∀ a j : Int, a ≠ 432 → ¬ (a = 429 ∧ (j = 13 ∨ j = 16 ∨ j = 17)) → W a j = nxT V n a j := fun a j q1 q2 => by
    rw [hW]
    split
    · exact (emA_o (by omega)).trans (uo a j (by omega))
    · exact uo a j (by omega)
  have w16 : W 429 16 = (m : Int) := by
    rw [hW]
    split
    · exact (emA_o (by omega)).trans (by rw [hU]; exact up_eq ⟨rfl, rfl⟩)
    · rw [hU]; exact up_eq ⟨rfl, rfl⟩
  have w17 : W 429 17 = o := by
    rw [hW]
    split
    · exact (emA_o (by omega)).trans (by rw [hU]; exact (up_ne (by omega)).trans (up_eq ⟨rfl, rfl⟩))
    · rw [hU]; exact (up_ne (by omega)).trans (up_eq ⟨rfl, rfl⟩)
  have u13 : U 429 13 = V 429 13 := (uo 429 13 (by omega)).trans (nxT_o (by omega))
  have w13 : W 429 13 = if opn A' (pil A') = 43 then V 429 13 + 1 else V 429 13 := by
    rw [hW]
    by_cases q : opn A' (pil A') = 43
    · rw [if_pos q, if_pos q, emA_13, u13]
    · rw [if_neg q, if_neg q, u13]
  have sd : sdA A' n = (-1, stl W 7 m) := by
    unfold sdA
    rw [if_neg (by omega)]
    have bv : bhV A' (pil A') = 1 := (if_neg (by omega)).trans (if_neg (by omega))
    rw [if_neg (by rw [bv]; decide)]
    have b1 : bh1 A' n (pil A') = nxT V n := by unfold bh1; rw [sv]
    have b2 : bh2 A' n (pil A') = U := by
      unfold bh2
      rw [b1, nxT_o (by omega), nxT_o (by omega), p14, p13, show o + 1 - 1 = o by omega, show ((m + 1 : Nat) : Int) - 1 = (m : Int) by omega, hU]
    have b3 : bh3 A' n (pil A') = W := by unfold bh3; rw [b2, hW]
    have bm : bhM A' n (pil A') = stl (bh3 A' n (pil A')) 7 (stN A' 1 (pil A') - 1) := (if_neg (by omega)).trans ((if_neg (by omega)).trans (if_neg (by omega)))
    rw [bm, b3, sN, show m + 1 - 1 = m from rfl]
  obtain ⟨s16, s13, s17, so⟩ := stl_all (r := 7) m W w16
  obtain ⟨A2, hA2⟩ : ∃ A2 : Me, A2 = stl W 7 m := ⟨_, rfl⟩
  rw [← hA2] at s16 s13 s17 so sd
  have w434 : ∀ j : Int, 0 ≤ j → j < m → W 434 j = A 434 j := fun j a b => by rw [wo 434 j (by decide) (by omega), nxT_o (by omega), p12 434 j (by decide) (by omega)]; exact h434 j a b
  have pA : pil A2 = stN W 7 m := by unfold pil; rw [s16]; rfl
  have sl := stN_le (M := W) (r := 7) m
  have a8 : A2 429 8 = nxT V n 429 8 := (so 429 8 (by decide) (by omega)).trans (wo 429 8 (by decide) (by omega))
  have g1 : goC Cy n x 1 = Cy x 1 := goC_o (by omega)
  have fW : FR A W := by
    rw [hW, hU]
    split
    · exact (((hFV.tr FR.nx).tr (FR.up (by omega))).tr (FR.up (by omega))).tr FR.em
    · exact ((hFV.tr FR.nx).tr (FR.up (by omega))).tr (FR.up (by omega))
  have fA2 : FR A A2 := by rw [hA2]; exact fW.tr (FR.st m W)
  have st5 : W 429 13 + m ≤ A' 429 13 + A' 429 16 := by rw [w13]; split <;> omega
  refine ⟨A2, W, hgo.t (Go.s gd sd (by omega)), ⟨t2.of ⟨rfl, fun _ => rfl⟩ ⟨?_, fun j => ?_⟩, t1.of (fun _ _ _ => rfl) (fun j q => ?_) (fun j => ?_), tv_go⟩, ⟨?_, ⟨by omega, by omega⟩, fun w => absurd w (by decide), fun _ => hA2⟩, ⟨by omega, by omega, fA2.2⟩, ?_, ⟨hFC.t FRC.go hc.1, fA2, fW⟩, fun a j q1 q2 => (so a j q1 q2).symm, ⟨w16, w17, by omega⟩, fun j a b => ?_, ⟨?_, ?_⟩, fun r r1 r7 => ?_, ?_⟩
  · exact (so 429 4 (by decide) (by omega)).trans (wo 429 4 (by decide) (by omega))
  · exact (so 433 j (by decide) (by omega)).trans (wo 433 j (by decide) (by omega))
  · exact (so 429 j (by decide) (by omega)).trans (wo 429 j (by decide) (by omega))
  · exact (so 433 j (by decide) (by omega)).trans (wo 433 j (by decide) (by omega))
  · exact (so 429 18 (by decide) (by omega)).trans ((wo 429 18 (by decide) (by omega)).trans ((nxT_o (by omega)).trans ((p12 429 18 (by decide) (by omega)).trans p4)))
  · rw [g1]; omega
  · exact (so 434 j (by decide) (by omega)).trans (w434 j a b)
  · rw [pA, opn_c (M := W) (N := A2) (fun j _ _ => so 434 j (by decide) (by omega)), opn_sN (by decide)]
    exact opn_c w434
  · rw [pA, if_neg (by decide), icS_c (M := W) (N := A2) _ (fun j _ => so 434 j (by decide) (by omega)), icS_sN (by decide)]
    exact icS_c _ (fun j hj => w434 j (by omega) (by omega))
  · rw [pA, hA2]
    exact (stl_st (by omega) m W w16).symm
  · rw [g1, w13]
    have t0 : ∀ j : Int, j < A 429 12 + 97 + 2 * V 429 13 → W 432 j = V 432 j := fun j b => by
      rw [hW]
      split
      · unfold emA
        rw [up_ne (by omega), up_ne (by rw [uo 429 12 (by omega), u13, nxT_o (by omega), v12]; omega), up_ne (by rw [uo 429 12 (by omega), u13, nxT_o (by omega), v12]; omega), uo 432 j (by omega)]
        exact nxT_o (by omega)
      · rw [uo 432 j (by omega)]; exact nxT_o (by omega)
    have t4 : opn A' (pil A') = 43 → W 432 (A 429 12 + 97 + 2 * V 429 13) = 4 := fun q => by
      rw [hW, if_pos q]
      unfold emA
      rw [up_ne (by omega), uo 429 12 (by omega), u13, show nxT V n 429 12 = A 429 12 from (nxT_o (by omega)).trans v12]
      exact (up_ne (by omega)).trans (up_eq ⟨rfl, rfl⟩)
    have s := seg (W 432) t0 t4
    exact s.c (fun i _ _ => goC_o (by omega)) (fun _ _ _ => rfl)
