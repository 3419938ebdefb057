theorem ENT.c {C A C' : Me} {n : Nat} {x o : Int} {m : Nat} (h : ENT C A n x o m) (h2 : ∀ j : Int, C' 2 j = C 2 j) (h3 : ∀ j : Int, C' 3 j = C 3 j) (hx : C' x 1 = C x 1) : ENT C' A n x o m := by
  obtain ⟨⟨h1, t, b⟩, h4, h5, h6, h8, h9, h10, h18⟩ := h
  exact ⟨⟨h1.of ⟨h2 0, h3⟩ ⟨rfl, fun _ => rfl⟩, t.of (fun j _ _ => h2 j) (fun _ _ => rfl) (fun _ => rfl), by rw [h2 8]; exact b⟩, by rw [h2 9]; exact h4, h5, h6, h8, h9, by rw [hx]; exact h10, h18⟩
theorem amC_o {C : Me} {x j9 a j : Int} (h : ¬ (a = x + 2 ∧ j = j9)) : amC C x j9 a j = C a j := by
  unfold amC
  split
  · exact up_ne h
  · rfl
theorem amC_i {C : Me} {x j9 : Int} (h : 0 ≤ j9 ∧ j9 < C x 1) : amC C x j9 (x + 2) j9 = or32 (shl32 (C x 1) 6) (and32 (C (x + 2) j9) 63) := by
  unfold amC
  rw [if_pos h]; exact up_eq ⟨rfl, rfl⟩
theorem ad_i {C : Me} {x k v : Int} (h : C x 1 < 300) : adC C x k v (x + 2) (C x 1) = or32 (shl32 v 6) k := by rw [ad_e h]; exact (up_ne (by omega)).trans (up_eq ⟨rfl, rfl⟩)
theorem ad_n {C : Me} {x k v : Int} (h : C x 1 < 300) : adC C x k v x 1 = C x 1 + 1 := by rw [ad_e h]; exact up_eq ⟨rfl, rfl⟩
theorem ad_p {C : Me} {x k v a j : Int} (h1 : ¬ (a = x ∧ j = 1)) (h2 : ¬ (a = x + 2 ∧ j = C x 1)) : adC C x k v a j = C a j := by
  unfold adC
  split
  · exact (up_ne h1).trans (up_ne h2)
  · rfl
/-- if, then, else -/
theorem cho_ok {n : Nat} {x o : Int} {R : RF} (hx : 15 ≤ x ∧ x ≤ 39) (h5 : o < 8 → TRU n x (o + 1) 0 0 1 (R 5 (o + 1) 0)) (h0 : o < 8 → NUM n x (o + 1) 3 4 5 (R 0 (o + 1) 0)) {C A : Me} {m : Nat} (hE : ENT C A n x o m) (hm : (m : Int) ≤ 6 * o + 5) (ho : o < 8) (hk : C 2 7 = 37) : REQ C A n x o m 7 0 (5 * o + 5) 7 (choB n x R (o + 1) (goC C n)) := by
  have t := hE.1.2.1
  have sg := te_sg t
  have na := te_na t
  have ho8 := hE.2.2.2.2.1
  rw [if_neg (by omega)] at na
  have hv : bgO A m = 41 := by rw [te_bg t, hk]; simp only [reduceIte, Int.reduceEq]
  obtain ⟨g1, g2, g3, g4, g5, g6, g7⟩ := ent_op hx hE (by omega) hv (by decide) (by omega) (fun w => by have := sg.2.1.mp w; omega) ho (by omega)
  have op41 : opn (nxT (opM A 41) n) (m + 1) = 41 := by
    unfold opn
    rw [oaS_t (by rw [g3]; decide), if_neg (by omega)]; exact g3
  have cm : ((m + 1 : Nat) : Int) - 1 = (m : Int) := by omega
  have e1 : goC C n x 1 = C x 1 := goC_o (by omega)
  have a13 := g5 429 13 (by decide) (by omega)
  have a12 := g5 429 12 (by decide) (by omega)
  have i1 := h5 ho (goC C n) (nxT (opM A 41) n) (m + 1) g2 (by omega) ⟨by omega, op41, by rw [cm, g3]; decide⟩
  unfold choB
  dsimp only
  generalize hr1 : R 5 (o + 1) 0 (goC C n) = r1 at i1 ⊢
  rcases i1 with ⟨s1, s2, A3, V3, s3, s4⟩ | s0
  · rw [if_neg s1]
    have h17 := s4.2.1.2.2.1 (by decide)
    have t3 := s4.1.2.1
    have oo : opn A3 (pil A3) = 41 := s4.2.2.2.2.2.2.2.2.1.1.trans op41
    have ic : icS A3 (pil A3) = 1 := s4.2.2.2.2.2.2.2.2.1.2
    unfold ENDT at s2
    have bO : bhO A3 (pil A3) = -1 := by
      rw [bw_no t3 (by omega), oo, ic, if_neg (by decide), if_neg (by decide), if_neg (by omega), if_neg (by omega)]
    have bP : bhP A3 (pil A3) = if r1.2 2 7 = 38 then 42 else -1 := by
      unfold bhP paO
      rw [oo, ic, if_neg (by decide), if_pos rfl]
      exact if_cg ⟨fun w => (te_then t3).mp ⟨w.1, w.2.1⟩, fun w => ⟨((te_then t3).mpr w).1, ((te_then t3).mpr w).2, by decide⟩⟩ rfl rfl
    by_cases q : r1.2 2 7 = 38
    · have ek : pkC r1.2 x n 38 = (1, goC (adC r1.2 x 38 0) n) := if_pos q
      rw [ek, if_neg (show ¬ (1 : Int) = 0 by decide)]
      rw [if_pos q] at bP
      obtain ⟨A4, f1, f2, f3, f4, f5, f6, f7, f8⟩ := op_nx (tok := 38) hx g2 s4 h17 (by decide) (by omega) (by rw [cm, g3]; decide) (by omega) bP (by decide) (by omega)
      rw [cm] at f3 f4
      have op42 : opn A4 (m + 1) = 42 := by
        unfold opn
        rw [oaS_t (by rw [f3]; decide), if_neg (by omega)]; exact f3
      have i2 := h0 ho (goC (adC r1.2 x 38 0) n) A4 (m + 1) f2 (by omega) (Or.inr (by rw [cm, f3]; decide)) (fun _ u => by have := u.1; omega)
      generalize hr3 : R 0 (o + 1) 0 (goC (adC r1.2 x 38 0) n) = r3 at i2 ⊢
      have c4 : goC (adC r1.2 x 38 0) n x 1 = r1.2 x 1 + 1 := (goC_o (by omega)).trans (ad_n f8)
      have b13 := f5 429 13 (by decide) (by omega)
      have b12 := f5 429 12 (by decide) (by omega)
      have v12 : V3 429 12 = A 429 12 := by rw [s4.2.2.2.2.1.2.2.1 429 12 (by decide) (by omega) (by omega), a12]
      rcases i2 with ⟨u1, u2, A5, V5, u3, u4⟩ | u0
      · rw [if_neg u1]
        have k17 := u4.2.1.2.2.1 (by decide)
        have t5 := u4.1.2.1
        have o5 : opn A5 (pil A5) = 42 := u4.2.2.2.2.2.2.2.2.1.1.trans op42
        unfold ENDT at u2
        have bO5 : bhO A5 (pil A5) = -1 := by
          rw [bw_no t5 (by omega), o5, if_pos (by decide)]
        have bP5 : bhP A5 (pil A5) = if r3.2 2 7 = 39 then 43 else -1 := by
          unfold bhP paO
          rw [o5, if_neg (by decide), if_neg (by decide), if_pos rfl]
          exact if_cg (te_else t5) rfl rfl
        by_cases q5 : r3.2 2 7 = 39
        · have ek5 : pkC r3.2 x n 39 = (1, goC (adC r3.2 x 39 0) n) := if_pos q5
          rw [ek5, if_neg (show ¬ (1 : Int) = 0 by decide)]
          rw [if_pos q5] at bP5
          obtain ⟨A6, d1, d2, d3, d4, d5, d6, d7, d8⟩ := op_nx (tok := 39) hx f2 u4 k17 (by decide) (by omega) (by rw [cm, f3]; decide) (by omega) bP5 (by decide) (by omega)
          rw [cm] at d3 d4
          have op43 : opn A6 (m + 1) = 43 := by
            unfold opn
            rw [oaS_t (by rw [d3]; decide), if_neg (by omega)]; exact d3
          have c6 : goC (adC r3.2 x 39 0) n x 1 = r3.2 x 1 + 1 := (goC_o (by omega)).trans (ad_n d8)
          have c6' : amC (goC (adC r3.2 x 39 0) n) x (r1.2 x 1) x 1 = r3.2 x 1 + 1 := (amC_o (by omega)).trans c6
          have E6 := d2.c (C' := amC (goC (adC r3.2 x 39 0) n) x (r1.2 x 1)) (fun j => amC_o (by omega)) (fun j => amC_o (by omega)) (amC_o (by omega))
          have i3 := h0 ho _ A6 (m + 1) E6 (by omega) (Or.inr (by rw [cm, d3]; decide)) (fun _ u => by have := u.1; omega)
          generalize hC6 : amC (goC (adC r3.2 x 39 0) n) x (r1.2 x 1) = C6 at c6' E6 i3 ⊢
          generalize hr5 : R 0 (o + 1) 0 C6 = r5 at i3 ⊢
          have w13 := d5 429 13 (by decide) (by omega)
          have w12 := d5 429 12 (by decide) (by omega)
          have v512 : V5 429 12 = A 429 12 := by rw [u4.2.2.2.2.1.2.2.1 429 12 (by decide) (by omega) (by omega), b12, v12]
          rcases i3 with ⟨y1, y2, A7, V7, y3, y4⟩ | y0
          · rw [if_neg y1]
            have m17 := y4.2.1.2.2.1 (by decide)
            have t7 := y4.1.2.1
            have o7 : opn A7 (pil A7) = 43 := y4.2.2.2.2.2.2.2.2.1.1.trans op43
            unfold ENDT at y2
            have bO7 : bhO A7 (pil A7) = -1 := by
              rw [bw_no t7 (by omega), o7, if_pos (by decide)]
            have bP7 : bhP A7 (pil A7) = if r5.2 2 7 = 40 then 0 else -1 := by
              unfold bhP paO
              rw [o7, if_neg (by decide), if_neg (by decide), if_neg (by decide), if_pos rfl]
              exact if_cg (te_end t7) rfl rfl
            have gA7 : Go n A A7 := g1.t (s3.t (f1.t (u3.t (d1.t y3))))
            have am7 : amC r5.2 x (r3.2 x 1) 2 7 = r5.2 2 7 := amC_o (by omega)
            unfold paC
            by_cases q7 : r5.2 2 7 = 40
            · rw [if_pos (am7.trans q7)]
              rw [if_pos q7] at bP7
              have fr7 : FR A A7 := g6.tr (f6.tr (d6.tr y4.2.2.2.2.1.2.1)) 
              have fv7 : FR A V7 := g6.tr (f6.tr (d6.tr y4.2.2.2.2.1.2.2))
              have s4c := s4.2.2.2.1
              have s4g := s4.2.2.1
              have s4f := s4.2.2.2.2.1.1
              have u4c := u4.2.2.2.1
              have u4g := u4.2.2.1
              have u4f := u4.2.2.2.2.1.1
              have y4c := y4.2.2.2.1
              have y4g := y4.2.2.1
              have y4f := y4.2.2.2.2.1.1
              rw [e1] at s4c s4f
              rw [c4] at u4c u4f
              rw [c6'] at y4c y4f
              rw [a13] at s4g
              rw [b13] at u4g
              rw [w13] at y4g
              have s13 := s4.2.2.2.2.2.2.1.2.2
              have u13 := u4.2.2.2.2.2.2.1.2.2
              have y13 := y4.2.2.2.2.2.2.1.2.2
              have cy : amC r5.2 x (r3.2 x 1) x 1 = r5.2 x 1 := amC_o (by omega)
              have c0 := hE.2.2.2.2.2.2.1
              -- the class's code, cell by cell
              have k6 : ∀ i : Int, i ≠ r1.2 x 1 → C6 (x + 2) i = goC (adC r3.2 x 39 0) n (x + 2) i := fun i w => by rw [← hC6]; exact amC_o (by omega)
              have k5 : ∀ i : Int, i < r3.2 x 1 + 1 → r5.2 (x + 2) i = C6 (x + 2) i := fun i w => y4f _ _ (by omega) (by omega) (by omega)
              have k4 : ∀ i : Int, i ≠ r3.2 x 1 → goC (adC r3.2 x 39 0) n (x + 2) i = r3.2 (x + 2) i := fun i w => (goC_o (by omega)).trans (ad_p (by omega) (by omega))
              have k3 : ∀ i : Int, i < r1.2 x 1 + 1 → r3.2 (x + 2) i = goC (adC r1.2 x 38 0) n (x + 2) i := fun i w => u4f _ _ (by omega) (by omega) (by omega)
              have k2 : ∀ i : Int, i ≠ r1.2 x 1 → goC (adC r1.2 x 38 0) n (x + 2) i = r1.2 (x + 2) i := fun i w => (goC_o (by omega)).trans (ad_p (by omega) (by omega))
              have ky : ∀ i : Int, i ≠ r3.2 x 1 → amC r5.2 x (r3.2 x 1) (x + 2) i = r5.2 (x + 2) i := fun i w => amC_o (by omega)
              have K1 : amC r5.2 x (r3.2 x 1) (x + 2) (r1.2 x 1) = or32 (shl32 (r3.2 x 1 + 1) 6) 38 := by
                rw [ky _ (by omega), k5 _ (by omega), ← hC6, amC_i (by rw [c6]; omega), c6, k4 _ (by omega), k3 _ (by omega), show goC (adC r1.2 x 38 0) n (x + 2) (r1.2 x 1) = or32 (shl32 0 6) 38 from (goC_o (by omega)).trans (ad_i f8), (cell (k := 38) (v := 0) (by decide) (by decide)).1]
              have K2 : amC r5.2 x (r3.2 x 1) (x + 2) (r3.2 x 1) = or32 (shl32 (r5.2 x 1) 6) 39 := by
                rw [amC_i (by omega), k5 _ (by omega), k6 _ (by omega), show goC (adC r3.2 x 39 0) n (x + 2) (r3.2 x 1) = or32 (shl32 0 6) 39 from (goC_o (by omega)).trans (ad_i d8), (cell (k := 39) (v := 0) (by decide) (by decide)).1]
              have hFC : FRC x (C x 1) C (amC r5.2 x (r3.2 x 1)) := by
                refine FRC.t ?_ (FRC.am (c := r3.2 x 1) (Int.le_refl _)) (by omega)
                refine FRC.t ?_ y4f (by omega)
                rw [← hC6]
                refine FRC.t ?_ (FRC.am (c := r1.2 x 1) (Int.le_refl _)) (by omega)
                refine FRC.t ?_ (FRC.go (c := r3.2 x 1)) (by omega)
                refine FRC.t ?_ (FRC.ad (c := r3.2 x 1) (Int.le_refl _)) (by omega)
                refine FRC.t ?_ u4f (by omega)
                refine FRC.t ?_ (FRC.go (c := r1.2 x 1)) (by omega)
                refine FRC.t ?_ (FRC.ad (c := r1.2 x 1) (Int.le_refl _)) (by omega)
                exact (FRC.go (n := n)).t s4f (Int.le_refl _)
              have n3 := y4.1.1.2.2.1
              have tp7 := t7.2.1
              obtain ⟨A2, W, z1, z2⟩ := cl_nx (Cy := amC r5.2 x (r3.2 x 1)) (bd := 5 * o + 5) hx hE E6 y4 m17 (by decide) (by rw [d3]; decide) (by omega) bP7 (by omega) gA7 fr7 fv7 (fun j a b => by rw [y4.2.2.2.2.2.2.2.1 j a (by omega), d4 j a b, f4 j a b]; exact g4 j a b) (by omega) (by omega) ⟨fun j => amC_o (by omega), fun j => amC_o (by omega)⟩ hFC ⟨by omega, by omega⟩ (fun T a b => by
                rw [o7, if_pos rfl, cy]
                have b := b o7
                have S1 := s4.2.2.2.2.2.2.2.2.2.2
                have S2 := u4.2.2.2.2.2.2.2.2.2.2
                have S3 := y4.2.2.2.2.2.2.2.2.2.2
                rw [e1, a13, a12] at S1
                rw [c4, b13, b12, v12] at S2
                rw [c6', w13, w12, v512] at S3
                have f3v := d6.1 
                have x2 := u4.2.2.2.2.1.2.2
                have x3 := y4.2.2.2.2.1.2.2
                have l2 := x2.2
                have l3 := x3.2
                rw [b13] at l2
                rw [w13] at l3
                have T3 : ∀ j : Int, j < A 429 12 + 97 + 2 * V5 429 13 → T j = V5 432 j := fun j w => by
                  rw [a j (by omega), x3.1 432 j (by decide) (by omega) (fun _ => by rw [w12, w13, v512]; exact w)]
                  exact d5 432 j (by decide) (by omega)
                have T2 : ∀ j : Int, j < A 429 12 + 97 + 2 * V3 429 13 → T j = V3 432 j := fun j w => by
                  rw [T3 j (by omega), x2.1 432 j (by decide) (by omega) (fun _ => by rw [b12, b13, v12]; exact w)]
                  exact f5 432 j (by decide) (by omega)
                refine SEG.cho (c1 := r1.2 x 1) (c2 := r3.2 x 1) (w1 := V3 429 13) (w2 := V5 429 13) (by omega) c0.1 (by omega) ((S1.w (by omega)).c (fun i i0 i1 => ?_) (fun i _ i1 => T2 i i1)) K1 ((S2.w (by omega)).c (fun i i0 i1 => ?_) (fun i _ i1 => T3 i i1)) K2 ((S3.w (by omega)).c (fun i i0 i1 => ?_) (fun i _ i1 => a i i1)) b
                · rw [ky _ (by omega), k5 _ (by omega), k6 _ (by omega), k4 _ (by omega), k3 _ (by omega), k2 _ (by omega)]
                · rw [ky _ (by omega), k5 _ (by omega), k6 _ (by omega), k4 _ (by omega)]
                · rw [ky _ (by omega)])
              exact Or.inl ⟨(show (1 : Int) ≠ 0 by decide), endt7, A2, W, z1, z2⟩
            · rw [if_neg (fun w => q7 (am7.symm.trans w))]
              rw [if_neg q7] at bP7
              have z := (no_part E6 y4 y3 m17 (by omega) (by omega) (by omega)).t (g1.t (s3.t (f1.t (u3.t d1))))
              refine Or.inr (z.of rfl ?_ ?_)
              · show rfC (amC r5.2 x (r3.2 x 1)) 1 2 1 = rfC r5.2 1 2 1
                rw [rf_12.1, rf_12.1]
              · show rfC (amC r5.2 x (r3.2 x 1)) 1 2 2 = rfC r5.2 1 2 2
                rw [rf_12.2, rf_12.2]; exact amC_o (by omega)
          · rw [if_pos y0.1]
            exact Or.inr ((y0.t (g1.t (s3.t (f1.t (u3.t d1))))).z)
        · have ek5 : pkC r3.2 x n 39 = (0, rfC r3.2 1) := if_neg q5
          rw [ek5, if_pos (show (0 : Int) = 0 from rfl)]
          rw [if_neg q5] at bP5
          exact Or.inr ((no_part f2 u4 u3 k17 (by omega) (by omega) (by omega)).t (g1.t (s3.t f1)))
      · rw [if_pos u0.1]
        exact Or.inr ((u0.t (g1.t (s3.t f1))).z)
    · have ek : pkC r1.2 x n 38 = (0, rfC r1.2 1) := if_neg q
      rw [ek, if_pos (show (0 : Int) = 0 from rfl)]
      rw [if_neg q] at bP
      exact Or.inr ((no_part g2 s4 s3 h17 (by omega) (by omega) (by omega)).t g1)
  · rw [if_pos s0.1]
    exact Or.inr ((s0.t g1).z)
