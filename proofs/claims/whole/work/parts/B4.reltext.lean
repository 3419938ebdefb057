/-- a clause, side by side -/
theorem cl_ok {C A : Me} {n : Nat} {x z : Int} (hx : 15 ≤ x ∧ x ≤ 39) (hz : 0 ≤ z ∧ z ≤ 2115) (h : TXI C A n x z) (h0 : C 2 7 ≠ 0) : CG A n ∧ CS A n ∧ (((clC C x n).1 ≠ 0 ∧ clV A n = 0 ∧ TXI (clC C x n).2 (clM A n) n x z ∧ clM A n 432 z = A 432 z + 1) ∨ DF (clM A n) (clC C x n) (clV A n)) := by
  have hh := h
  obtain ⟨t, ⟨e12, -, -⟩, ⟨ec, e0, e24⟩, e13, e1, el, ei⟩ := h
  have tp := t.2.1.2.1
  have n3 := t.1.2.2.1
  have cg : CG A n := ⟨⟨⟨t.1.2.1, by omega, tp.2.2.1⟩, n3⟩, ⟨tp.1, by omega⟩, by rw [e12]; exact hz, by rw [e12]; omega⟩
  have sg := te_sg t.2.1
  have so := te_so t.2.1
  have sk := so_kd so
  have cI : clI A = z + 1 + 4 * A 432 z := by unfold clI; rw [e12]
  refine ⟨cg, ?_⟩
  unfold clC
  by_cases q1 : C 2 7 < 16 ∨ 26 < C 2 7
  · have s0 : soO A < 0 := sk.1.mpr q1
    rw [if_pos q1]
    have ev : clV A n = 1 := if_pos s0
    have em : clM A n = A := if_pos s0
    rw [ev, em]
    exact ⟨fun w => by omega, Or.inr (t.rf (by decide))⟩
  · rw [if_neg q1]
    have s0 : ¬ soO A < 0 := fun w => q1 (sk.1.mp w)
    obtain ⟨k1, k2, k3, k4⟩ := sk.2 (by omega)
    have dfu : ∀ f : Int, f ≠ 0 ∧ f ≠ -1 → DF A (0, rfC (up C 2 9 (C 2 7 - 16)) f) f := fun f hf => by
      have r := rf_12 (C := up C 2 9 (C 2 7 - 16)) (w := f)
      exact ⟨rfl, hf, r.1, r.2.trans ((up_ne (by omega)).trans t.2.1.1.2)⟩
    have ele : soO A ≤ 2 → (C (x + 1) (C 2 7 - 16) ≠ -1 ↔ and32 (shr32 (A 429 19) (soO A)) 1 = 1) := fun w => by
      have := (el (soO A) (by omega) (by omega)).1
      rw [k4 w] at this ⊢
      exact this
    by_cases q2 : C 2 7 ≤ 18 ∧ C (x + 1) (C 2 7 - 16) ≠ -1
    · rw [if_pos q2]
      have b : soO A ≤ 2 ∧ and32 (shr32 (A 429 19) (soO A)) 1 = 1 := ⟨k3.mpr q2.1, (ele (k3.mpr q2.1)).mp q2.2⟩
      have ev : clV A n = 4 := (if_neg s0).trans (if_pos b)
      have em : clM A n = A := (if_neg s0).trans (if_pos b)
      rw [ev, em]
      exact ⟨fun _ w u => absurd b.2 u, Or.inr (dfu 4 (by decide))⟩
    · rw [if_neg q2]
      have b : ¬ (soO A ≤ 2 ∧ and32 (shr32 (A 429 19) (soO A)) 1 = 1) := fun w => q2 ⟨k3.mp w.1, (ele w.1).mpr w.2⟩
      by_cases q3 : 24 ≤ C x 0
      · rw [if_pos q3]
        have b3 : A 432 (A 429 12) = 24 := by rw [e12]; omega
        have ev : clV A n = 6 := (if_neg s0).trans ((if_neg b).trans (if_pos b3))
        have em : clM A n = A := (if_neg s0).trans ((if_neg b).trans (if_pos b3))
        rw [ev, em]
        exact ⟨fun _ w u v => absurd b3 v, Or.inr (dfu 6 (by decide))⟩
      · rw [if_neg q3]
        have b3 : ¬ A 432 (A 429 12) = 24 := by rw [e12]; omega
        have ev : clV A n = if clW A n ≠ 0 then clW A n else if clB A n 429 9 = 59 then 0 else 1 := (if_neg s0).trans ((if_neg b).trans (if_neg b3))
        have em : clM A n = if clW A n ≠ 0 then clB A n else if clB A n 429 9 = 59 then nxT (clN A n) n else clN A n := (if_neg s0).trans ((if_neg b).trans (if_neg b3))
        have eN : clN A n = up (clB A n) 432 z (A 432 z + 1) := by unfold clN; rw [e12]
        obtain ⟨d1, d8⟩ := cl_ds hx t h0
        have ce := cl1_e (n := n) hx.1 (show C x 0 < 24 by omega)
        -- the end of a clause
        have fin : ∀ (r2 : Me), DS r2 (clB A n) n → clW A n = 0 → r2 2 7 ≠ 5 → DF (clM A n) (0, rfC r2 1) (clV A n) := fun r2 d w u => by
          have a9 : clB A n 429 9 ≠ 59 := fun y => u ((te_sg d.2.1).2.2.2.2.1.mp y)
          have nw : ¬ clW A n ≠ 0 := fun y => y w
          rw [ev, em, if_neg nw, if_neg nw, if_neg a9, if_neg a9]
          refine ⟨rfl, by decide, (rf_12 (C := r2) (w := 1)).1, ?_⟩
          rw [eN, up_ne (by omega)]
          exact (rf_12 (C := r2) (w := 1)).2.trans d.2.1.1.2
        have suc : ∀ (r2 : Me), DS r2 (clB A n) n → clW A n = 0 → r2 2 7 = 5 → clV A n = 0 ∧ clM A n = nxT (up (clB A n) 432 z (A 432 z + 1)) n := fun r2 d w u => by
          have a9 : clB A n 429 9 = 59 := (te_sg d.2.1).2.2.2.2.1.mpr u
          have nw : ¬ clW A n ≠ 0 := fun y => y w
          rw [ev, em, if_neg nw, if_neg nw, if_pos a9, if_pos a9, eN]
          exact ⟨rfl, rfl⟩
        by_cases q4 : 18 < C 2 7
        · rw [if_pos q4]
          have s3 : 3 ≤ soO A ∧ soO A ≤ 10 := ⟨by omega, k1⟩
          refine ⟨fun _ w => by omega, ?_⟩
          have D := de_ok (X := clI A) hx d1 (c := A 432 z) (by rw [ce.1, ec]) e0 s3
          rw [k2] at D
          have eW : clW A n = bdV (clX A n) n (soO A) (clI A) := rfl
          have eB : clB A n = bdM (clX A n) n (soO A) (clI A) := rfl
          rw [← eW, ← eB] at D
          have e1' : goC (beC (up C 2 9 (C 2 7 - 16)) x (C 2 7)) n = cl1 C x n := rfl
          rw [e1']
          rcases D with ⟨⟨f1, f2, f3, f4, f5, f6, f7⟩ | f0, fb⟩
          · rw [thR_1 f1]
            unfold paC
            by_cases q5 : (deC (cl1 C x n) x n (C 2 7)).2 2 7 = 5
            · obtain ⟨g1, g2⟩ := suc _ f3 f2 q5
              rw [if_pos q5, thR_1 (show (1 : Int) ≠ 0 by decide), g1, g2]
              rw [cI] at f6 f7 fb
              have T := tx_deed hx hh h0 (by omega) rfl s3 k2 f3 f4 f5 f6 f7 (fb f2)
              exact Or.inl ⟨(show (1 : Int) ≠ 0 by decide), rfl, T.1, T.2⟩
            · rw [if_neg q5, thR_0 rfl]
              exact Or.inr (fin _ f3 f2 q5)
          · obtain ⟨f1, f2, f3, f4⟩ := f0
            rw [thR_0 f1, ev, em, if_pos f2.1, if_pos f2.1]
            exact Or.inr ⟨rfl, f2, f3, f4⟩
        · rw [if_neg q4]
          have s2 : soO A ≤ 2 := k3.mpr (by omega)
          have e1' : goC (beC (up C 2 9 (C 2 7 - 16)) x (C 2 7)) n = cl1 C x n := rfl
          rw [e1', ← k4 s2]
          have c9 : C (x + 1) (soO A) = -1 := by
            rw [k4 s2]
            exact Classical.byContradiction fun w => q2 ⟨by omega, w⟩
          have uo : ∀ a j : Int, a ≠ x + 1 → up (cl1 C x n) (x + 1) (soO A) (C x 1) a j = cl1 C x n a j := fun a j w => up_ne (by omega)
          have L := law_ok (C := up (cl1 C x n) (x + 1) (soO A) (C x 1)) (A := clX A n) (i := clI A) hx (d1.1.of ⟨uo 2 0 (by omega), fun j => uo 3 j (by omega)⟩ ⟨rfl, fun _ => rfl⟩) (d1.2.1.of (fun j _ _ => uo 2 j (by omega)) (fun _ _ => rfl) (fun _ => rfl)) (by rw [uo 2 8 (by omega)]; exact d1.2.2) (by rw [uo 2 9 (by omega), ce.2.2, clX_s.2]; exact k4 s2) (by rw [show clX A n 429 12 = A 429 12 from clX_o (by omega), e12]; exact hz) (by rw [show clX A n 429 13 = A 429 13 from clX_o (by omega)]; omega) (by rw [uo x 1 (by omega), cl1_o (by omega) hx.1]; omega)
          obtain ⟨L0, L⟩ := L
          refine ⟨fun _ _ _ _ => L0, ?_⟩
          have bl := bd_l (M := clX A n) (n := n) (i := clI A) s2
          have eW : clW A n = lcV (clX A n) n (clI A) := bl.1
          have eB : clB A n = lcM (clX A n) n (clI A) := bl.2
          generalize rdC n x 83 0 0 0 (up (cl1 C x n) (x + 1) (soO A) (C x 1)) = r at L ⊢
          rcases L with ⟨f1, f2, V, f3, f4⟩ | ⟨f1, f2, f3, f4⟩
          · rw [thR_1 f1]
            rw [← eW] at f2
            rw [← eB] at f3
            have dB : DS r.2 (clB A n) n := by
              rw [f3]
              exact ⟨f4.1.1.of ⟨rfl, fun _ => rfl⟩ ⟨up_ne (by omega), fun j => up_ne (by omega)⟩, f4.1.2.1.of (fun _ _ _ => rfl) (fun j _ => up_ne (by omega)) (fun j => up_ne (by omega)), f4.1.2.2⟩
            unfold pkC
            by_cases q5 : r.2 2 7 = 5
            · obtain ⟨g1, g2⟩ := suc _ dB f2 q5
              rw [if_pos q5, thR_1 (show (1 : Int) ≠ 0 by decide), g1, g2, f3, cI]
              rw [cI] at f4
              have T := tx_law hx hh h0 (by omega) rfl ⟨by omega, s2⟩ k2 c9 f4 q5
              exact Or.inl ⟨(show (1 : Int) ≠ 0 by decide), rfl, T.1, T.2⟩
            · rw [if_neg q5, thR_0 rfl]
              exact Or.inr (fin _ dB f2 q5)
          · rw [← eW] at f2 f3
            rw [← eB] at f4
            rw [thR_0 f1, ev, em, if_pos f2, if_pos f2]
            exact Or.inr ⟨rfl, ⟨f2, by rw [eW]; exact L0.2⟩, f3, f4⟩
/-- the clauses of a text, side by side -/
theorem rs_ok {n : Nat} {x z : Int} (hx : 15 ≤ x ∧ x ≤ 39) (hz : 0 ≤ z ∧ z ≤ 2115) : ∀ (c k : Nat) (C A : Me), TXI C A n x z → 25 ≤ (c : Int) + A 432 z → c < k → rtS n k A ∧ (rtI n k A).1 ≠ -1 ∧ (((rdS x n c C).1 ≠ 0 ∧ (rtI n k A).1 = 0 ∧ TXI (rdS x n c C).2 (rtI n k A).2 n x z ∧ (rdS x n c C).2 2 7 = 0) ∨ DF (rtI n k A).2 (rdS x n c C) (rtI n k A).1) := by
  intro c
  induction c with
  | zero =>
    intro k C A h hc
    have := h.2.2.1.2.2
    exfalso
    omega
  | succ c ih =>
    intro k C A h hc hk
    obtain ⟨k, rfl⟩ : ∃ j : Nat, k = j + 1 := ⟨k - 1, by omega⟩
    have sg := te_sg h.1.2.1
    by_cases q : C 2 7 = 0
    · have a9 := sg.1.mpr q
      have e1 : rdS x n (c + 1) C = (1, C) := if_pos q
      rw [e1, rtI_0 a9]
      exact ⟨fun w => absurd a9 w, (show (0 : Int) ≠ -1 by decide), Or.inl ⟨(show (1 : Int) ≠ 0 by decide), rfl, h, q⟩⟩
    · have a9 : A 429 9 ≠ 0 := fun w => q (sg.1.mp w)
      have e1 : rdS x n (c + 1) C = thR (clC C x n) fun D => rdS x n c D := if_neg q
      obtain ⟨-, c2, c3⟩ := cl_ok hx hz h q
      rw [e1]
      rcases c3 with ⟨f1, f2, f3, f4⟩ | f0
      · rw [thR_1 f1, rtI_s a9 f2]
        obtain ⟨i1, i2, i3⟩ := ih k _ _ f3 (by rw [f4]; omega) (by omega)
        exact ⟨fun _ => ⟨c2, fun _ => i1⟩, i2, i3⟩
      · obtain ⟨f1, f2, f3, f4⟩ := f0
        rw [thR_0 f1, rtI_e a9 f2.1]
        exact ⟨fun _ => ⟨c2, fun w => absurd w f2.1⟩, f2.2, Or.inr ⟨rfl, f2, f3, f4⟩⟩
