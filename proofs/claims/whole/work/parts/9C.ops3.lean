theorem op_want {M : Me} (h : INV M) {c g : Int} : OpR kX10_want kX11_want 2 2 [(0, c), (0, g)] M := by
  have hs9 := h.1.sc
  have w14 := wa_14 h.1.hy.1
  have w4 := wa_4 h.1.hy.1
  obtain ⟨⟨a0, -⟩, ⟨a1, -⟩, ⟨a2, -⟩, ⟨a3, -⟩, ⟨a4, -⟩, ⟨a5, -⟩, -⟩ := h.1.1.2.2.2.2.2.o
  have hc : ∀ x y z : Int, Con kX10_want 2 0 0 ((1, 0) :: [(0, c), (0, g)]) (Sf x y z) M (Ex (some (0, gwantV M c g)) (Sf x y z) (gwantM M c g)) := fun x y z => f_want (by rw [a0]; exact w4)
  by_cases q1 : c = -1
  · refine OpR.mk (f := (up M 215 0 0)) (g := up (up M 215 0 0) 430 4 0) (v := some (0, 0)) h (fun x y z => ⟨x, y, z, ?_⟩) (fun a j q => up_ne (by omega)) (fun h1 x y z => ?_) (fun _ a j q => up_ne (by omega)) (fun h1 => ?_) (fun h1 d0 d1 => ⟨d0.of (wa_3 h1.hy.1).2 (wa_14 h1.hy.1).2 (fun j q => up_ne (by omega)), d1.row (fun j => up_ne (by omega))⟩)
    · have c9 := hc x y z
      rwa [show gwantV M c g = 0 from if_pos q1, show gwantM M c g = (up M 215 0 0) from if_pos q1] at c9
    · have fr : ∀ j : Int, (up M 215 0 0) 430 j = M 430 j := fun j => up_ne (by omega)
      refine (m_want (x := x) (y := y) (z := z) (by rw [fr 4]; exact w4) (by rw [fr 14]; exact w14)).at (fun v9 S9 M9 q => ?_)
      rcases q with ⟨q0, ⟨p1, p2, p3⟩ | ⟨p1, p2, p3⟩ | ⟨p1, p2, p3⟩⟩
      · exact ⟨p2, q0, p3⟩
      · exact absurd q1 p1.1
      · exact absurd q1 p1.1
    · have h2 := rl_ewant (h1.c (C' := M) (fun a j q => rfl) h1.2.2.2.2.1.2)
      exact h2
  · by_cases q2 : ((0 ≤ c ∧ c < M 430 14) ∧ (0 ≤ g ∧ g ≤ 1)) ∧ (M 430 4) ≠ 8
    · refine OpR.mk (f := (up (up (up (up M 216 (M 430 4) c) 217 (M 430 4) g) 218 (M 430 4) 0) 215 0 ((M 430 4) + 1))) (g := (up (up (up (up (up (up (up M 216 (M 430 4) c) 217 (M 430 4) g) 218 (M 430 4) 0) 215 0 ((M 430 4) + 1)) 430 (114 + 2 * (M 430 4)) c) 430 (114 + 2 * (M 430 4) + 1) g) 430 4 ((M 430 4) + 1))) (v := some (0, (M 430 4) + 1)) h (fun x y z => ⟨x, y, z, ?_⟩) (fun a j q => (up_ne (by omega)).trans ((up_ne (by omega)).trans ((up_ne (by omega)).trans (up_ne (by omega))))) (fun h1 x y z => ?_) (fun _ a j q => (up_ne (by omega)).trans ((up_ne (by omega)).trans (up_ne (by omega)))) (fun h1 => ?_) (fun h1 d0 d1 => ⟨d0.of (wa_3 h1.hy.1).2 (wa_14 h1.hy.1).2 (fun j q => (up_ne (by omega)).trans ((up_ne (by omega)).trans (up_ne (by omega)))), d1.row (fun j => (up_ne (by omega)).trans ((up_ne (by omega)).trans (up_ne (by omega))))⟩)
      · have c9 := hc x y z
        rwa [show gwantV M c g = (M 430 4) + 1 from (if_neg q1).trans ((if_neg (by omega)).trans ((if_pos (by omega)).trans (by rw [a0]))), show gwantM M c g = (up (up (up (up M 216 (M 430 4) c) 217 (M 430 4) g) 218 (M 430 4) 0) 215 0 ((M 430 4) + 1)) from (if_neg q1).trans ((if_neg (by omega)).trans ((if_pos (by omega)).trans (by rw [a0])))] at c9
      · have fr : ∀ j : Int, (up (up (up (up M 216 (M 430 4) c) 217 (M 430 4) g) 218 (M 430 4) 0) 215 0 ((M 430 4) + 1)) 430 j = M 430 j := fun j => (up_ne (by omega)).trans ((up_ne (by omega)).trans ((up_ne (by omega)).trans (up_ne (by omega))))
        refine (m_want (x := x) (y := y) (z := z) (by rw [fr 4]; exact w4) (by rw [fr 14]; exact w14)).at (fun v9 S9 M9 q => ?_)
        simp only [fr] at q
        rcases q with ⟨q0, ⟨p1, p2, p3⟩ | ⟨p1, p2, p3⟩ | ⟨p1, p2, p3⟩⟩
        · exact absurd p1 q1
        · exact ⟨p2, q0, p3⟩
        · exact absurd (by omega) p1.2
      · have fr : ∀ j : Int, (up (up (up (up M 216 (M 430 4) c) 217 (M 430 4) g) 218 (M 430 4) 0) 215 0 ((M 430 4) + 1)) 430 j = M 430 j := fun j => (up_ne (by omega)).trans ((up_ne (by omega)).trans ((up_ne (by omega)).trans (up_ne (by omega))))
        have hM : rlR M (up (up (up (up M 216 (M 430 4) c) 217 (M 430 4) g) 218 (M 430 4) 0) 215 0 ((M 430 4) + 1)) := h1
        exact rl_awant hM (w := 0) (fr 4) (by omega) ⟨by omega, by rw [fr 14]; omega⟩ ⟨by omega, by omega⟩
    · refine OpR.mk (f := M) (g := M) (v := some (0, -2)) h (fun x y z => ⟨x, y, z, ?_⟩) (fun a j q => rfl) (fun h1 x y z => ?_) (fun _ a j q => rfl) (fun h1 => h1) (fun h1 d0 d1 => ⟨d0, d1⟩)
      · have c9 := hc x y z
        by_cases q3 : (0 ≤ c ∧ c < M 50 3) ∧ 0 ≤ g ∧ g ≤ 1
        · rwa [show gwantV M c g = -2 from (if_neg q1).trans ((if_neg (fun w => w q3)).trans (if_neg (by omega))), show gwantM M c g = M from (if_neg q1).trans ((if_neg (fun w => w q3)).trans (if_neg (by omega)))] at c9
        · rwa [show gwantV M c g = -2 from (if_neg q1).trans (if_pos q3), show gwantM M c g = M from (if_neg q1).trans (if_pos q3)] at c9
      · have fr : ∀ j : Int, M 430 j = M 430 j := fun j => rfl
        refine (m_want (x := x) (y := y) (z := z) (by rw [fr 4]; exact w4) (by rw [fr 14]; exact w14)).at (fun v9 S9 M9 q => ?_)
        rcases q with ⟨q0, ⟨p1, p2, p3⟩ | ⟨p1, p2, p3⟩ | ⟨p1, p2, p3⟩⟩
        · exact absurd p1 q1
        · exact absurd (by omega) q2
        · exact ⟨p2, q0, p3⟩
theorem op_board {M : Me} (h : INV M) {c : Int} : OpR kX10_board kX11_board 2 1 [(0, c)] M := by
  have hs9 := h.1.sc
  have w14 := wa_14 h.1.hy.1
  have w5 := wa_5 h.1.hy.1
  obtain ⟨⟨a0, -⟩, ⟨a1, -⟩, ⟨a2, -⟩, ⟨a3, -⟩, ⟨a4, -⟩, ⟨a5, -⟩, -⟩ := h.1.1.2.2.2.2.2.o
  have hc : ∀ x y z : Int, Con kX10_board 2 0 0 ((1, 0) :: [(0, c)]) (Sf x y z) M (Ex (some (0, gboardV M c)) (Sf x y z) (gboardM M c)) := fun x y z => f_board (by rw [a1]; exact w5)
  by_cases q1 : c = -1
  · refine OpR.mk (f := (up M 219 0 0)) (g := up (up M 219 0 0) 430 5 0) (v := some (0, 0)) h (fun x y z => ⟨x, y, z, ?_⟩) (fun a j q => up_ne (by omega)) (fun h1 x y z => ?_) (fun _ a j q => up_ne (by omega)) (fun h1 => ?_) (fun h1 d0 d1 => ⟨d0.of (wa_3 h1.hy.1).2 (wa_14 h1.hy.1).2 (fun j q => up_ne (by omega)), d1.row (fun j => up_ne (by omega))⟩)
    · have c9 := hc x y z
      rwa [show gboardV M c = 0 from if_pos q1, show gboardM M c = (up M 219 0 0) from if_pos q1] at c9
    · have fr : ∀ j : Int, (up M 219 0 0) 430 j = M 430 j := fun j => up_ne (by omega)
      refine (m_board (x := x) (y := y) (z := z) (by rw [fr 5]; exact w5)).at (fun v9 S9 M9 q => ?_)
      rcases q with ⟨q0, ⟨p1, p2, p3⟩ | ⟨p1, p2, p3⟩ | ⟨p1, p2, p3⟩⟩
      · exact ⟨p2, q0, p3⟩
      · exact absurd q1 p1.1
      · exact absurd q1 p1.1
    · have h2 := rl_eboard (h1.c (C' := M) (fun a j q => rfl) h1.2.2.2.2.1.2)
      exact h2
  · by_cases q2 : (1 ≤ c ∧ c ≤ 99) ∧ (M 430 5) ≠ 8
    · refine OpR.mk (f := (up (up (up (up M 220 (M 430 5) c) 221 (M 430 5) 0) 222 (M 430 5) 0) 219 0 ((M 430 5) + 1))) (g := (up (up (up (up (up (up M 220 (M 430 5) c) 221 (M 430 5) 0) 222 (M 430 5) 0) 219 0 ((M 430 5) + 1)) 430 (130 + (M 430 5)) c) 430 5 ((M 430 5) + 1))) (v := some (0, (M 430 5) + 1)) h (fun x y z => ⟨x, y, z, ?_⟩) (fun a j q => (up_ne (by omega)).trans ((up_ne (by omega)).trans ((up_ne (by omega)).trans (up_ne (by omega))))) (fun h1 x y z => ?_) (fun _ a j q => (up_ne (by omega)).trans (up_ne (by omega))) (fun h1 => ?_) (fun h1 d0 d1 => ⟨d0.of (wa_3 h1.hy.1).2 (wa_14 h1.hy.1).2 (fun j q => (up_ne (by omega)).trans (up_ne (by omega))), d1.row (fun j => (up_ne (by omega)).trans (up_ne (by omega)))⟩)
      · have c9 := hc x y z
        rwa [show gboardV M c = (M 430 5) + 1 from (if_neg q1).trans ((if_neg (by omega)).trans ((if_pos (by omega)).trans (by rw [a1]))), show gboardM M c = (up (up (up (up M 220 (M 430 5) c) 221 (M 430 5) 0) 222 (M 430 5) 0) 219 0 ((M 430 5) + 1)) from (if_neg q1).trans ((if_neg (by omega)).trans ((if_pos (by omega)).trans (by rw [a1])))] at c9
      · have fr : ∀ j : Int, (up (up (up (up M 220 (M 430 5) c) 221 (M 430 5) 0) 222 (M 430 5) 0) 219 0 ((M 430 5) + 1)) 430 j = M 430 j := fun j => (up_ne (by omega)).trans ((up_ne (by omega)).trans ((up_ne (by omega)).trans (up_ne (by omega))))
        refine (m_board (x := x) (y := y) (z := z) (by rw [fr 5]; exact w5)).at (fun v9 S9 M9 q => ?_)
        simp only [fr] at q
        rcases q with ⟨q0, ⟨p1, p2, p3⟩ | ⟨p1, p2, p3⟩ | ⟨p1, p2, p3⟩⟩
        · exact absurd p1 q1
        · exact ⟨p2, q0, p3⟩
        · exact absurd (by omega) p1.2
      · have fr : ∀ j : Int, (up (up (up (up M 220 (M 430 5) c) 221 (M 430 5) 0) 222 (M 430 5) 0) 219 0 ((M 430 5) + 1)) 430 j = M 430 j := fun j => (up_ne (by omega)).trans ((up_ne (by omega)).trans ((up_ne (by omega)).trans (up_ne (by omega))))
        have hM : rlR M (up (up (up (up M 220 (M 430 5) c) 221 (M 430 5) 0) 222 (M 430 5) 0) 219 0 ((M 430 5) + 1)) := h1
        exact rl_aboard hM (w := 0) (v := 0) (fr 5) (by omega) ⟨by omega, by omega⟩
    · refine OpR.mk (f := M) (g := M) (v := some (0, -2)) h (fun x y z => ⟨x, y, z, ?_⟩) (fun a j q => rfl) (fun h1 x y z => ?_) (fun _ a j q => rfl) (fun h1 => h1) (fun h1 d0 d1 => ⟨d0, d1⟩)
      · have c9 := hc x y z
        by_cases q3 : 1 ≤ c ∧ c ≤ 99
        · rwa [show gboardV M c = -2 from (if_neg q1).trans ((if_neg (fun w => w q3)).trans (if_neg (by omega))), show gboardM M c = M from (if_neg q1).trans ((if_neg (fun w => w q3)).trans (if_neg (by omega)))] at c9
        · rwa [show gboardV M c = -2 from (if_neg q1).trans (if_pos q3), show gboardM M c = M from (if_neg q1).trans (if_pos q3)] at c9
      · have fr : ∀ j : Int, M 430 j = M 430 j := fun j => rfl
        refine (m_board (x := x) (y := y) (z := z) (by rw [fr 5]; exact w5)).at (fun v9 S9 M9 q => ?_)
        rcases q with ⟨q0, ⟨p1, p2, p3⟩ | ⟨p1, p2, p3⟩ | ⟨p1, p2, p3⟩⟩
        · exact absurd p1 q1
        · exact absurd (by omega) q2
        · exact ⟨p2, q0, p3⟩
theorem op_seam {M : Me} (h : INV M) {c g s : Int} : OpR kX10_seam kX11_seam 2 1 [(0, c), (0, g), (0, s)] M := by
  have hs9 := h.1.sc
  have w14 := wa_14 h.1.hy.1
  have w6 := wa_6 h.1.hy.1
  obtain ⟨⟨a0, -⟩, ⟨a1, -⟩, ⟨a2, -⟩, ⟨a3, -⟩, ⟨a4, -⟩, ⟨a5, -⟩, -⟩ := h.1.1.2.2.2.2.2.o
  have hc : ∀ x y z : Int, Con kX10_seam 2 0 0 ((1, 0) :: [(0, c), (0, g), (0, s)]) (Sf x y z) M (Ex (some (0, gseamV M c g s)) (Sf x y z) (gseamM M c g s)) := fun x y z => f_seam (by rw [a2]; exact w6)
  by_cases q1 : c = -1
  · refine OpR.mk (f := (up M 223 0 0)) (g := up (up M 223 0 0) 430 6 0) (v := some (0, 0)) h (fun x y z => ⟨x, y, z, ?_⟩) (fun a j q => up_ne (by omega)) (fun h1 x y z => ?_) (fun _ a j q => up_ne (by omega)) (fun h1 => ?_) (fun h1 d0 d1 => ⟨d0.of (wa_3 h1.hy.1).2 (wa_14 h1.hy.1).2 (fun j q => up_ne (by omega)), d1.row (fun j => up_ne (by omega))⟩)
    · have c9 := hc x y z
      rwa [show gseamV M c g s = 0 from if_pos q1, show gseamM M c g s = (up M 223 0 0) from if_pos q1] at c9
    · have fr : ∀ j : Int, (up M 223 0 0) 430 j = M 430 j := fun j => up_ne (by omega)
      refine (m_seam (x := x) (y := y) (z := z) (by rw [fr 6]; exact w6)).at (fun v9 S9 M9 q => ?_)
      rcases q with ⟨q0, ⟨p1, p2, p3⟩ | ⟨p1, p2, p3⟩ | ⟨p1, p2, p3⟩⟩
      · exact ⟨p2, q0, p3⟩
      · exact absurd q1 p1.1
      · exact absurd q1 p1.1
    · have h2 := rl_eseam (h1.c (C' := M) (fun a j q => rfl) h1.2.2.2.2.1.2)
      exact h2
  · by_cases q2 : ((0 ≤ c ∧ c ≤ 99) ∧ (c ≤ g ∧ g ≤ 99) ∧ (0 ≤ s ∧ s ≤ 999)) ∧ (M 430 6) ≠ 8
    · refine OpR.mk (f := (up (up (up (up M 224 (M 430 6) c) 225 (M 430 6) g) 226 (M 430 6) s) 223 0 ((M 430 6) + 1))) (g := (up (up (up (up (up (up (up (up M 224 (M 430 6) c) 225 (M 430 6) g) 226 (M 430 6) s) 223 0 ((M 430 6) + 1)) 430 (138 + 3 * (M 430 6)) c) 430 (138 + 3 * (M 430 6) + 1) g) 430 (138 + 3 * (M 430 6) + 2) s) 430 6 ((M 430 6) + 1))) (v := some (0, (M 430 6) + 1)) h (fun x y z => ⟨x, y, z, ?_⟩) (fun a j q => (up_ne (by omega)).trans ((up_ne (by omega)).trans ((up_ne (by omega)).trans (up_ne (by omega))))) (fun h1 x y z => ?_) (fun _ a j q => (up_ne (by omega)).trans ((up_ne (by omega)).trans ((up_ne (by omega)).trans (up_ne (by omega))))) (fun h1 => ?_) (fun h1 d0 d1 => ⟨d0.of (wa_3 h1.hy.1).2 (wa_14 h1.hy.1).2 (fun j q => (up_ne (by omega)).trans ((up_ne (by omega)).trans ((up_ne (by omega)).trans (up_ne (by omega))))), d1.row (fun j => (up_ne (by omega)).trans ((up_ne (by omega)).trans ((up_ne (by omega)).trans (up_ne (by omega)))))⟩)
      · have c9 := hc x y z
        rwa [show gseamV M c g s = (M 430 6) + 1 from (if_neg q1).trans ((if_neg (by omega)).trans ((if_pos (by omega)).trans (by rw [a2]))), show gseamM M c g s = (up (up (up (up M 224 (M 430 6) c) 225 (M 430 6) g) 226 (M 430 6) s) 223 0 ((M 430 6) + 1)) from (if_neg q1).trans ((if_neg (by omega)).trans ((if_pos (by omega)).trans (by rw [a2])))] at c9
      · have fr : ∀ j : Int, (up (up (up (up M 224 (M 430 6) c) 225 (M 430 6) g) 226 (M 430 6) s) 223 0 ((M 430 6) + 1)) 430 j = M 430 j := fun j => (up_ne (by omega)).trans ((up_ne (by omega)).trans ((up_ne (by omega)).trans (up_ne (by omega))))
        refine (m_seam (x := x) (y := y) (z := z) (by rw [fr 6]; exact w6)).at (fun v9 S9 M9 q => ?_)
        simp only [fr] at q
        rcases q with ⟨q0, ⟨p1, p2, p3⟩ | ⟨p1, p2, p3⟩ | ⟨p1, p2, p3⟩⟩
        · exact absurd p1 q1
        · exact ⟨p2, q0, p3⟩
        · exact absurd (by omega) p1.2
      · have fr : ∀ j : Int, (up (up (up (up M 224 (M 430 6) c) 225 (M 430 6) g) 226 (M 430 6) s) 223 0 ((M 430 6) + 1)) 430 j = M 430 j := fun j => (up_ne (by omega)).trans ((up_ne (by omega)).trans ((up_ne (by omega)).trans (up_ne (by omega))))
        have hM : rlR M (up (up (up (up M 224 (M 430 6) c) 225 (M 430 6) g) 226 (M 430 6) s) 223 0 ((M 430 6) + 1)) := h1
        exact rl_aseam hM (w := s) (fr 6) (by omega) ⟨by omega, by omega⟩ ⟨by omega, by omega⟩ ⟨by omega, by omega⟩
    · refine OpR.mk (f := M) (g := M) (v := some (0, -2)) h (fun x y z => ⟨x, y, z, ?_⟩) (fun a j q => rfl) (fun h1 x y z => ?_) (fun _ a j q => rfl) (fun h1 => h1) (fun h1 d0 d1 => ⟨d0, d1⟩)
      · have c9 := hc x y z
        by_cases q3 : 0 ≤ c ∧ g ≤ 99 ∧ c ≤ g ∧ 0 ≤ s ∧ s ≤ 999
        · rwa [show gseamV M c g s = -2 from (if_neg q1).trans ((if_neg (fun w => w q3)).trans (if_neg (by omega))), show gseamM M c g s = M from (if_neg q1).trans ((if_neg (fun w => w q3)).trans (if_neg (by omega)))] at c9
        · rwa [show gseamV M c g s = -2 from (if_neg q1).trans (if_pos q3), show gseamM M c g s = M from (if_neg q1).trans (if_pos q3)] at c9
      · have fr : ∀ j : Int, M 430 j = M 430 j := fun j => rfl
        refine (m_seam (x := x) (y := y) (z := z) (by rw [fr 6]; exact w6)).at (fun v9 S9 M9 q => ?_)
        rcases q with ⟨q0, ⟨p1, p2, p3⟩ | ⟨p1, p2, p3⟩ | ⟨p1, p2, p3⟩⟩
        · exact absurd p1 q1
        · exact absurd (by omega) q2
        · exact ⟨p2, q0, p3⟩
theorem op_heir {M : Me} (h : INV M) {c : Int} : OpR kX10_heir kX11_heir 2 1 [(0, c)] M := by
  have hs9 := h.1.sc
  have w14 := wa_14 h.1.hy.1
  have w7 := wa_7 h.1.hy.1
  obtain ⟨⟨a0, -⟩, ⟨a1, -⟩, ⟨a2, -⟩, ⟨a3, -⟩, ⟨a4, -⟩, ⟨a5, -⟩, -⟩ := h.1.1.2.2.2.2.2.o
  have hc : ∀ x y z : Int, Con kX10_heir 2 0 0 ((1, 0) :: [(0, c)]) (Sf x y z) M (Ex (some (0, gheirV M c)) (Sf x y z) (gheirM M c)) := fun x y z => f_heir (by rw [a3]; exact w7)
  by_cases q1 : c = -1
  · refine OpR.mk (f := (up M 227 0 0)) (g := up (up M 227 0 0) 430 7 0) (v := some (0, 0)) h (fun x y z => ⟨x, y, z, ?_⟩) (fun a j q => up_ne (by omega)) (fun h1 x y z => ?_) (fun _ a j q => up_ne (by omega)) (fun h1 => ?_) (fun h1 d0 d1 => ⟨d0.of (wa_3 h1.hy.1).2 (wa_14 h1.hy.1).2 (fun j q => up_ne (by omega)), d1.row (fun j => up_ne (by omega))⟩)
    · have c9 := hc x y z
      rwa [show gheirV M c = 0 from if_pos q1, show gheirM M c = (up M 227 0 0) from if_pos q1] at c9
    · have fr : ∀ j : Int, (up M 227 0 0) 430 j = M 430 j := fun j => up_ne (by omega)
      refine (m_heir (x := x) (y := y) (z := z) (by rw [fr 7]; exact w7)).at (fun v9 S9 M9 q => ?_)
      rcases q with ⟨q0, ⟨p1, p2, p3⟩ | ⟨p1, p2, p3⟩ | ⟨p1, p2, p3⟩⟩
      · exact ⟨p2, q0, p3⟩
      · exact absurd q1 p1.1
      · exact absurd q1 p1.1
    · have h2 := rl_eheir (h1.c (C' := M) (fun a j q => rfl) h1.2.2.2.2.1.2)
      exact h2
  · by_cases q2 : (1 ≤ c ∧ c ≤ 999) ∧ (M 430 7) ≠ 6
    · refine OpR.mk (f := (up (up (up (up M 228 (M 430 7) c) 229 (M 430 7) 0) 230 (M 430 7) 0) 227 0 ((M 430 7) + 1))) (g := (up (up (up (up (up (up M 228 (M 430 7) c) 229 (M 430 7) 0) 230 (M 430 7) 0) 227 0 ((M 430 7) + 1)) 430 (162 + (M 430 7)) c) 430 7 ((M 430 7) + 1))) (v := some (0, (M 430 7) + 1)) h (fun x y z => ⟨x, y, z, ?_⟩) (fun a j q => (up_ne (by omega)).trans ((up_ne (by omega)).trans ((up_ne (by omega)).trans (up_ne (by omega))))) (fun h1 x y z => ?_) (fun _ a j q => (up_ne (by omega)).trans (up_ne (by omega))) (fun h1 => ?_) (fun h1 d0 d1 => ⟨d0.of (wa_3 h1.hy.1).2 (wa_14 h1.hy.1).2 (fun j q => (up_ne (by omega)).trans (up_ne (by omega))), d1.row (fun j => (up_ne (by omega)).trans (up_ne (by omega)))⟩)
      · have c9 := hc x y z
        rwa [show gheirV M c = (M 430 7) + 1 from (if_neg q1).trans ((if_neg (by omega)).trans ((if_pos (by omega)).trans (by rw [a3]))), show gheirM M c = (up (up (up (up M 228 (M 430 7) c) 229 (M 430 7) 0) 230 (M 430 7) 0) 227 0 ((M 430 7) + 1)) from (if_neg q1).trans ((if_neg (by omega)).trans ((if_pos (by omega)).trans (by rw [a3])))] at c9
      · have fr : ∀ j : Int, (up (up (up (up M 228 (M 430 7) c) 229 (M 430 7) 0) 230 (M 430 7) 0) 227 0 ((M 430 7) + 1)) 430 j = M 430 j := fun j => (up_ne (by omega)).trans ((up_ne (by omega)).trans ((up_ne (by omega)).trans (up_ne (by omega))))
        refine (m_heir (x := x) (y := y) (z := z) (by rw [fr 7]; exact w7)).at (fun v9 S9 M9 q => ?_)
        simp only [fr] at q
        rcases q with ⟨q0, ⟨p1, p2, p3⟩ | ⟨p1, p2, p3⟩ | ⟨p1, p2, p3⟩⟩
        · exact absurd p1 q1
        · exact ⟨p2, q0, p3⟩
        · exact absurd (by omega) p1.2
      · have fr : ∀ j : Int, (up (up (up (up M 228 (M 430 7) c) 229 (M 430 7) 0) 230 (M 430 7) 0) 227 0 ((M 430 7) + 1)) 430 j = M 430 j := fun j => (up_ne (by omega)).trans ((up_ne (by omega)).trans ((up_ne (by omega)).trans (up_ne (by omega))))
        have hM : rlR M (up (up (up (up M 228 (M 430 7) c) 229 (M 430 7) 0) 230 (M 430 7) 0) 227 0 ((M 430 7) + 1)) := h1
        exact rl_aheir hM (w := 0) (v := 0) (fr 7) (by omega) ⟨by omega, by omega⟩
    · refine OpR.mk (f := M) (g := M) (v := some (0, -2)) h (fun x y z => ⟨x, y, z, ?_⟩) (fun a j q => rfl) (fun h1 x y z => ?_) (fun _ a j q => rfl) (fun h1 => h1) (fun h1 d0 d1 => ⟨d0, d1⟩)
      · have c9 := hc x y z
        by_cases q3 : 1 ≤ c ∧ c ≤ 999
        · rwa [show gheirV M c = -2 from (if_neg q1).trans ((if_neg (fun w => w q3)).trans (if_neg (by omega))), show gheirM M c = M from (if_neg q1).trans ((if_neg (fun w => w q3)).trans (if_neg (by omega)))] at c9
        · rwa [show gheirV M c = -2 from (if_neg q1).trans (if_pos q3), show gheirM M c = M from (if_neg q1).trans (if_pos q3)] at c9
      · have fr : ∀ j : Int, M 430 j = M 430 j := fun j => rfl
        refine (m_heir (x := x) (y := y) (z := z) (by rw [fr 7]; exact w7)).at (fun v9 S9 M9 q => ?_)
        rcases q with ⟨q0, ⟨p1, p2, p3⟩ | ⟨p1, p2, p3⟩ | ⟨p1, p2, p3⟩⟩
        · exact absurd p1 q1
        · exact absurd (by omega) q2
        · exact ⟨p2, q0, p3⟩
theorem op_offer {M : Me} (h : INV M) {c : Int} : OpR kX10_offer kX11_offer 2 1 [(0, c)] M := by
  have hs9 := h.1.sc
  have w14 := wa_14 h.1.hy.1
  have w8 := wa_8 h.1.hy.1
  obtain ⟨⟨a0, -⟩, ⟨a1, -⟩, ⟨a2, -⟩, ⟨a3, -⟩, ⟨a4, -⟩, ⟨a5, -⟩, -⟩ := h.1.1.2.2.2.2.2.o
  have hc : ∀ x y z : Int, Con kX10_offer 2 0 0 ((1, 0) :: [(0, c)]) (Sf x y z) M (Ex (some (0, gofferV M c)) (Sf x y z) (gofferM M c)) := fun x y z => f_offer (by rw [a4]; exact w8)
  by_cases q1 : c = -1
  · refine OpR.mk (f := (up M 231 0 0)) (g := up (up M 231 0 0) 430 8 0) (v := some (0, 0)) h (fun x y z => ⟨x, y, z, ?_⟩) (fun a j q => up_ne (by omega)) (fun h1 x y z => ?_) (fun _ a j q => up_ne (by omega)) (fun h1 => ?_) (fun h1 d0 d1 => ⟨d0.of (wa_3 h1.hy.1).2 (wa_14 h1.hy.1).2 (fun j q => up_ne (by omega)), d1.row (fun j => up_ne (by omega))⟩)
    · have c9 := hc x y z
      rwa [show gofferV M c = 0 from if_pos q1, show gofferM M c = (up M 231 0 0) from if_pos q1] at c9
    · have fr : ∀ j : Int, (up M 231 0 0) 430 j = M 430 j := fun j => up_ne (by omega)
      refine (m_offer (x := x) (y := y) (z := z) (by rw [fr 8]; exact w8)).at (fun v9 S9 M9 q => ?_)
      rcases q with ⟨q0, ⟨p1, p2, p3⟩ | ⟨p1, p2, p3⟩ | ⟨p1, p2, p3⟩⟩
      · exact ⟨p2, q0, p3⟩
      · exact absurd q1 p1.1
      · exact absurd q1 p1.1
    · have h2 := rl_eoffer (h1.c (C' := M) (fun a j q => rfl) h1.2.2.2.2.1.2)
      exact h2
  · by_cases q2 : (0 ≤ c ∧ c ≤ 999) ∧ (M 430 8) ≠ 8
    · refine OpR.mk (f := (up (up (up (up M 232 (M 430 8) c) 233 (M 430 8) 0) 234 (M 430 8) 0) 231 0 ((M 430 8) + 1))) (g := (up (up (up (up (up (up M 232 (M 430 8) c) 233 (M 430 8) 0) 234 (M 430 8) 0) 231 0 ((M 430 8) + 1)) 430 (168 + (M 430 8)) c) 430 8 ((M 430 8) + 1))) (v := some (0, (M 430 8) + 1)) h (fun x y z => ⟨x, y, z, ?_⟩) (fun a j q => (up_ne (by omega)).trans ((up_ne (by omega)).trans ((up_ne (by omega)).trans (up_ne (by omega))))) (fun h1 x y z => ?_) (fun _ a j q => (up_ne (by omega)).trans (up_ne (by omega))) (fun h1 => ?_) (fun h1 d0 d1 => ⟨d0.of (wa_3 h1.hy.1).2 (wa_14 h1.hy.1).2 (fun j q => (up_ne (by omega)).trans (up_ne (by omega))), d1.row (fun j => (up_ne (by omega)).trans (up_ne (by omega)))⟩)
      · have c9 := hc x y z
        rwa [show gofferV M c = (M 430 8) + 1 from (if_neg q1).trans ((if_neg (by omega)).trans ((if_pos (by omega)).trans (by rw [a4]))), show gofferM M c = (up (up (up (up M 232 (M 430 8) c) 233 (M 430 8) 0) 234 (M 430 8) 0) 231 0 ((M 430 8) + 1)) from (if_neg q1).trans ((if_neg (by omega)).trans ((if_pos (by omega)).trans (by rw [a4])))] at c9
      · have fr : ∀ j : Int, (up (up (up (up M 232 (M 430 8) c) 233 (M 430 8) 0) 234 (M 430 8) 0) 231 0 ((M 430 8) + 1)) 430 j = M 430 j := fun j => (up_ne (by omega)).trans ((up_ne (by omega)).trans ((up_ne (by omega)).trans (up_ne (by omega))))
        refine (m_offer (x := x) (y := y) (z := z) (by rw [fr 8]; exact w8)).at (fun v9 S9 M9 q => ?_)
        simp only [fr] at q
        rcases q with ⟨q0, ⟨p1, p2, p3⟩ | ⟨p1, p2, p3⟩ | ⟨p1, p2, p3⟩⟩
        · exact absurd p1 q1
        · exact ⟨p2, q0, p3⟩
        · exact absurd (by omega) p1.2
      · have fr : ∀ j : Int, (up (up (up (up M 232 (M 430 8) c) 233 (M 430 8) 0) 234 (M 430 8) 0) 231 0 ((M 430 8) + 1)) 430 j = M 430 j := fun j => (up_ne (by omega)).trans ((up_ne (by omega)).trans ((up_ne (by omega)).trans (up_ne (by omega))))
        have hM : rlR M (up (up (up (up M 232 (M 430 8) c) 233 (M 430 8) 0) 234 (M 430 8) 0) 231 0 ((M 430 8) + 1)) := h1
        exact rl_aoffer hM (w := 0) (v := 0) (fr 8) (by omega) ⟨by omega, by omega⟩
    · refine OpR.mk (f := M) (g := M) (v := some (0, -2)) h (fun x y z => ⟨x, y, z, ?_⟩) (fun a j q => rfl) (fun h1 x y z => ?_) (fun _ a j q => rfl) (fun h1 => h1) (fun h1 d0 d1 => ⟨d0, d1⟩)
      · have c9 := hc x y z
        by_cases q3 : 0 ≤ c ∧ c ≤ 999
        · rwa [show gofferV M c = -2 from (if_neg q1).trans ((if_neg (fun w => w q3)).trans (if_neg (by omega))), show gofferM M c = M from (if_neg q1).trans ((if_neg (fun w => w q3)).trans (if_neg (by omega)))] at c9
        · rwa [show gofferV M c = -2 from (if_neg q1).trans (if_pos q3), show gofferM M c = M from (if_neg q1).trans (if_pos q3)] at c9
      · have fr : ∀ j : Int, M 430 j = M 430 j := fun j => rfl
        refine (m_offer (x := x) (y := y) (z := z) (by rw [fr 8]; exact w8)).at (fun v9 S9 M9 q => ?_)
        rcases q with ⟨q0, ⟨p1, p2, p3⟩ | ⟨p1, p2, p3⟩ | ⟨p1, p2, p3⟩⟩
        · exact absurd p1 q1
        · exact absurd (by omega) q2
        · exact ⟨p2, q0, p3⟩
theorem op_priced {M : Me} (h : INV M) {c g : Int} : OpR kX10_priced kX11_priced 2 2 [(0, c), (0, g)] M := by
  have hs9 := h.1.sc
  have w14 := wa_14 h.1.hy.1
  have w9 := wa_9 h.1.hy.1
  obtain ⟨⟨a0, -⟩, ⟨a1, -⟩, ⟨a2, -⟩, ⟨a3, -⟩, ⟨a4, -⟩, ⟨a5, -⟩, -⟩ := h.1.1.2.2.2.2.2.o
  have hc : ∀ x y z : Int, Con kX10_priced 2 0 0 ((1, 0) :: [(0, c), (0, g)]) (Sf x y z) M (Ex (some (0, gpricedV M c g)) (Sf x y z) (gpricedM M c g)) := fun x y z => f_priced (by rw [a5]; exact w9)
  by_cases q1 : c = -1
  · refine OpR.mk (f := (up M 235 0 0)) (g := up (up M 235 0 0) 430 9 0) (v := some (0, 0)) h (fun x y z => ⟨x, y, z, ?_⟩) (fun a j q => up_ne (by omega)) (fun h1 x y z => ?_) (fun _ a j q => up_ne (by omega)) (fun h1 => ?_) (fun h1 d0 d1 => ⟨d0.of (wa_3 h1.hy.1).2 (wa_14 h1.hy.1).2 (fun j q => up_ne (by omega)), d1.row (fun j => up_ne (by omega))⟩)
    · have c9 := hc x y z
      rwa [show gpricedV M c g = 0 from if_pos q1, show gpricedM M c g = (up M 235 0 0) from if_pos q1] at c9
    · have fr : ∀ j : Int, (up M 235 0 0) 430 j = M 430 j := fun j => up_ne (by omega)
      refine (m_priced (x := x) (y := y) (z := z) (by rw [fr 9]; exact w9) (by rw [fr 14]; exact w14)).at (fun v9 S9 M9 q => ?_)
      rcases q with ⟨q0, ⟨p1, p2, p3⟩ | ⟨p1, p2, p3⟩ | ⟨p1, p2, p3⟩⟩
      · exact ⟨p2, q0, p3⟩
      · exact absurd q1 p1.1
      · exact absurd q1 p1.1
    · have h2 := rl_epriced (h1.c (C' := M) (fun a j q => rfl) h1.2.2.2.2.1.2)
      exact h2
  · by_cases q2 : ((0 ≤ c ∧ c < M 430 14) ∧ (0 ≤ g ∧ g ≤ 9999)) ∧ (M 430 9) ≠ 8
    · refine OpR.mk (f := (up (up (up (up M 236 (M 430 9) c) 237 (M 430 9) g) 238 (M 430 9) 0) 235 0 ((M 430 9) + 1))) (g := (up (up (up (up (up (up (up M 236 (M 430 9) c) 237 (M 430 9) g) 238 (M 430 9) 0) 235 0 ((M 430 9) + 1)) 430 (176 + 2 * (M 430 9)) c) 430 (176 + 2 * (M 430 9) + 1) g) 430 9 ((M 430 9) + 1))) (v := some (0, (M 430 9) + 1)) h (fun x y z => ⟨x, y, z, ?_⟩) (fun a j q => (up_ne (by omega)).trans ((up_ne (by omega)).trans ((up_ne (by omega)).trans (up_ne (by omega))))) (fun h1 x y z => ?_) (fun _ a j q => (up_ne (by omega)).trans ((up_ne (by omega)).trans (up_ne (by omega)))) (fun h1 => ?_) (fun h1 d0 d1 => ⟨d0.of (wa_3 h1.hy.1).2 (wa_14 h1.hy.1).2 (fun j q => (up_ne (by omega)).trans ((up_ne (by omega)).trans (up_ne (by omega)))), d1.row (fun j => (up_ne (by omega)).trans ((up_ne (by omega)).trans (up_ne (by omega))))⟩)
      · have c9 := hc x y z
        rwa [show gpricedV M c g = (M 430 9) + 1 from (if_neg q1).trans ((if_neg (by omega)).trans ((if_pos (by omega)).trans (by rw [a5]))), show gpricedM M c g = (up (up (up (up M 236 (M 430 9) c) 237 (M 430 9) g) 238 (M 430 9) 0) 235 0 ((M 430 9) + 1)) from (if_neg q1).trans ((if_neg (by omega)).trans ((if_pos (by omega)).trans (by rw [a5])))] at c9
      · have fr : ∀ j : Int, (up (up (up (up M 236 (M 430 9) c) 237 (M 430 9) g) 238 (M 430 9) 0) 235 0 ((M 430 9) + 1)) 430 j = M 430 j := fun j => (up_ne (by omega)).trans ((up_ne (by omega)).trans ((up_ne (by omega)).trans (up_ne (by omega))))
        refine (m_priced (x := x) (y := y) (z := z) (by rw [fr 9]; exact w9) (by rw [fr 14]; exact w14)).at (fun v9 S9 M9 q => ?_)
        simp only [fr] at q
        rcases q with ⟨q0, ⟨p1, p2, p3⟩ | ⟨p1, p2, p3⟩ | ⟨p1, p2, p3⟩⟩
        · exact absurd p1 q1
        · exact ⟨p2, q0, p3⟩
        · exact absurd (by omega) p1.2
      · have fr : ∀ j : Int, (up (up (up (up M 236 (M 430 9) c) 237 (M 430 9) g) 238 (M 430 9) 0) 235 0 ((M 430 9) + 1)) 430 j = M 430 j := fun j => (up_ne (by omega)).trans ((up_ne (by omega)).trans ((up_ne (by omega)).trans (up_ne (by omega))))
        have hM : rlR M (up (up (up (up M 236 (M 430 9) c) 237 (M 430 9) g) 238 (M 430 9) 0) 235 0 ((M 430 9) + 1)) := h1
        exact rl_apriced hM (w := 0) (fr 9) (by omega) ⟨by omega, by rw [fr 14]; omega⟩ ⟨by omega, by omega⟩
    · refine OpR.mk (f := M) (g := M) (v := some (0, -2)) h (fun x y z => ⟨x, y, z, ?_⟩) (fun a j q => rfl) (fun h1 x y z => ?_) (fun _ a j q => rfl) (fun h1 => h1) (fun h1 d0 d1 => ⟨d0, d1⟩)
      · have c9 := hc x y z
        by_cases q3 : (0 ≤ c ∧ c < M 50 3) ∧ 0 ≤ g ∧ g ≤ 9999
        · rwa [show gpricedV M c g = -2 from (if_neg q1).trans ((if_neg (fun w => w q3)).trans (if_neg (by omega))), show gpricedM M c g = M from (if_neg q1).trans ((if_neg (fun w => w q3)).trans (if_neg (by omega)))] at c9
        · rwa [show gpricedV M c g = -2 from (if_neg q1).trans (if_pos q3), show gpricedM M c g = M from (if_neg q1).trans (if_pos q3)] at c9
      · have fr : ∀ j : Int, M 430 j = M 430 j := fun j => rfl
        refine (m_priced (x := x) (y := y) (z := z) (by rw [fr 9]; exact w9) (by rw [fr 14]; exact w14)).at (fun v9 S9 M9 q => ?_)
        rcases q with ⟨q0, ⟨p1, p2, p3⟩ | ⟨p1, p2, p3⟩ | ⟨p1, p2, p3⟩⟩
        · exact absurd p1 q1
        · exact absurd (by omega) q2
        · exact ⟨p2, q0, p3⟩
