theorem rlH.mv {C A C' A' : Me} {s s' r r' : Int} (h : rlH C A s r) (hC : ∀ j : Int, 0 ≤ j → j < 3 → C' s' j = C s j) (hA : ∀ j : Int, 0 ≤ j → j < 2142 → A' r' j = A r j) : rlH C' A' s' r' := by
  unfold rlH
  rw [hC 0 (by decide) (by decide), hC 1 (by decide) (by decide), hC 2 (by decide) (by decide), hA 13 (by decide) (by decide), hA 1 (by decide) (by decide), hA 2 (by decide) (by decide)]
  exact h
theorem rlN.mv {C A C' A' : Me} {q q' r r' : Int} (h : rlN C A q r) (c0 : ∀ j : Int, 0 ≤ j → j < 5 → C' (q') j = C (q) j) (c1 : ∀ j : Int, 0 ≤ j → j < 5 → C' (q' + 1) j = C (q + 1) j) (c2 : ∀ j : Int, 0 ≤ j → j < 12 → C' (q' + 2) j = C (q + 2) j) (c3 : ∀ j : Int, 0 ≤ j → j < 12 → C' (q' + 3) j = C (q + 3) j) (c4 : ∀ j : Int, 0 ≤ j → j < 30 → C' (q' + 4) j = C (q + 4) j) (hA : ∀ j : Int, 0 ≤ j → j < 2142 → A' r' j = A r j) (h0 : A r 0 ≤ 5) (h14 : A r 14 ≤ 12) : rlN C' A' q' r' := by
  unfold rlN
  rw [c0 0 (by decide) (by decide), c0 1 (by decide) (by decide), c0 2 (by decide) (by decide), c0 3 (by decide) (by decide), c0 4 (by decide) (by decide), hA 10 (by decide) (by decide), hA 11 (by decide) (by decide), hA 0 (by decide) (by decide), hA 14 (by decide) (by decide), hA 12 (by decide) (by decide)]
  refine ⟨h.1, fun p g0 g1 => ?_, fun c g0 g1 => ?_, fun i g0 g1 => ?_⟩
  · rw [c1 p g0 (by omega), hA _ (by omega) (by omega)]; exact h.2.1 p g0 g1
  · rw [c2 c g0 (by omega), c3 c g0 (by omega), hA _ (by omega) (by omega), hA _ (by omega) (by omega)]; exact h.2.2.1 c g0 g1
  · rw [c4 i g0 g1, hA _ (by omega) (by omega)]; exact h.2.2.2 i g0 g1
theorem rlQ.mv {C A C' A' : Me} {q q' r r' x : Int} (h : rlQ C A q r x) (c0 : ∀ j : Int, 0 ≤ j → j < 5 → C' (q') j = C (q) j) (c1 : ∀ j : Int, 0 ≤ j → j < 5 → C' (q' + 1) j = C (q + 1) j) (c2 : ∀ j : Int, 0 ≤ j → j < 12 → C' (q' + 2) j = C (q + 2) j) (c3 : ∀ j : Int, 0 ≤ j → j < 12 → C' (q' + 3) j = C (q + 3) j) (c4 : ∀ j : Int, 0 ≤ j → j < 30 → C' (q' + 4) j = C (q + 4) j) (hA : ∀ j : Int, 0 ≤ j → j < 2142 → A' r' j = A r j) (hx : 0 ≤ x ∧ x + 64 ≤ 2142) (h0 : A r (x + 1) ≤ 5) (h14 : A r x ≤ 12) : rlQ C' A' q' r' x := by
  unfold rlQ
  rw [c0 0 (by decide) (by decide), c0 1 (by decide) (by decide), c0 2 (by decide) (by decide), c0 3 (by decide) (by decide), c0 4 (by decide) (by decide), hA (x + 2) (by omega) (by omega), hA (x + 3) (by omega) (by omega), hA (x + 1) (by omega) (by omega), hA x (by omega) (by omega), hA (x + 4) (by omega) (by omega)]
  refine ⟨h.1, fun p g0 g1 => ?_, fun c g0 g1 => ?_, fun i g0 g1 => ?_⟩
  · rw [c1 p g0 (by omega), hA _ (by omega) (by omega)]; exact h.2.1 p g0 g1
  · rw [c2 c g0 (by omega), c3 c g0 (by omega), hA _ (by omega) (by omega), hA _ (by omega) (by omega)]; exact h.2.2.1 c g0 g1
  · rw [c4 i g0 g1, hA _ (by omega) (by omega)]; exact h.2.2.2 i g0 g1
theorem rlT.mv {C A C' A' : Me} {s s' r r' : Int} (h : rlT C A s r) (hW : WR A r) (e0 : C' (s' + 6) 0 = C (s + 6) 0) (e1 : C' (s' + 6) 1 = 0) (hM : ∀ u : Int, 0 ≤ u → u < A r 3 → (∀ k j : Int, 0 ≤ k → k ≤ 4 → 0 ≤ j → j < (if k < 2 then 5 else if k < 4 then 12 else 30) → C' (s' + 8 + 5 * u + k) j = C (s + 8 + 5 * ((C (s + 6) 1 + u) % 30) + k) j)) (hA : ∀ j : Int, 0 ≤ j → j < 2142 → A' r' j = A r j) : rlT C' A' s' r' := by
  have w3 := wr_3 hW
  unfold rlT
  rw [e0, e1, hA 3 (by decide) (by decide), hA 14 (by decide) (by decide), hA 0 (by decide) (by decide)]
  refine ⟨h.1, by decide, fun u g0 g1 => ?_⟩
  obtain ⟨r1, r2, r3⟩ := h.2.2 u g0 g1
  have m := hM u g0 g1
  rw [show (0 + u) % 30 = u by omega, hA _ (by omega) (by omega), hA _ (by omega) (by omega)]
  refine ⟨r1.mv (fun j q0 q1 => ?_) (fun j q0 q1 => m 1 j (by decide) (by decide) q0 (by rw [if_pos (by decide)]; exact q1)) (fun j q0 q1 => m 2 j (by decide) (by decide) q0 (by rw [if_neg (by decide), if_pos (by decide)]; exact q1)) (fun j q0 q1 => m 3 j (by decide) (by decide) q0 (by rw [if_neg (by decide), if_pos (by decide)]; exact q1)) (fun j q0 q1 => m 4 j (by decide) (by decide) q0 (by rw [if_neg (by decide), if_neg (by decide)]; exact q1)) hA (by omega) (wr_s1 hW (by omega)) (wr_s0 hW (by omega)), r2, r3⟩
  have := m 0 j (by decide) (by decide) q0 (by rw [if_pos (by decide)]; exact q1)
  rwa [Int.add_zero, Int.add_zero] at this
theorem rlP.mv {C A C' A' : Me} {s s' r r' : Int} (h : rlP C A s r) (h5 : A r 0 ≤ 5) (c1 : ∀ j : Int, 0 ≤ j → j < 5 → C' (s' + 158) j = C (s + 158) j) (c2 : ∀ j : Int, 0 ≤ j → j < 5 → C' (s' + 159) j = C (s + 159) j) (hA : ∀ j : Int, 0 ≤ j → j < 2142 → A' r' j = A r j) : rlP C' A' s' r' := by
  unfold rlP
  rw [hA 0 (by decide) (by decide)]
  intro p g0 g1
  rw [c1 p g0 (by omega), c2 p g0 (by omega), hA _ (by omega) (by omega), hA _ (by omega) (by omega)]
  exact h p g0 g1
theorem rlK.mv {C A C' A' : Me} {s s' r r' : Int} (h : rlK C A s r) (h12 : A r 14 ≤ 12) (hC : ∀ k j : Int, 160 ≤ k → k ≤ 165 → 0 ≤ j → j < 12 → C' (s' + k) j = C (s + k) j) (hA : ∀ j : Int, 0 ≤ j → j < 2142 → A' r' j = A r j) : rlK C' A' s' r' := by
  unfold rlK
  rw [hA 14 (by decide) (by decide), hA 0 (by decide) (by decide)]
  intro c g0 g1
  obtain ⟨⟨h1, h2⟩, h3, h4, h5, h6, h7, h8⟩ := h c g0 g1
  rw [hC 160 c (by decide) (by decide) g0 (by omega), hC 161 c (by decide) (by decide) g0 (by omega), hC 162 c (by decide) (by decide) g0 (by omega), hC 163 c (by decide) (by decide) g0 (by omega), hC 164 c (by decide) (by decide) g0 (by omega), hC 165 c (by decide) (by decide) g0 (by omega), hA (15 + 7 * c + 2) (by omega) (by omega), hA (15 + 7 * c + 3) (by omega) (by omega), hA (15 + 7 * c + 4) (by omega) (by omega), hA (15 + 7 * c + 5) (by omega) (by omega), hA (15 + 7 * c + 6) (by omega) (by omega)]
  refine ⟨⟨h1, h2⟩, h3, h4, h5, h6, h7.trans (hangT_c fun e q => ?_), h8⟩
  exact (hA _ (by omega) (by omega)).symm
theorem rlL.mv {C A C' A' : Me} {s s' r r' : Int} (h : rlL C A s r) (hW : WR A r) (hT : ∀ k : Int, k = 166 ∨ k = 170 ∨ k = 174 ∨ k = 178 ∨ k = 182 ∨ k = 186 → C' (s' + k) 0 = C (s + k) 0 ∧ ∀ i j : Int, 1 ≤ i → i ≤ 3 → 0 ≤ j → j < C (s + k) 0 → C' (s' + k + i) j = C (s + k + i) j) (hs : ∀ j : Int, 0 ≤ j → j < 8 → 0 ≤ C' (s' + 177) j ∧ C' (s' + 177) j ≤ 999) (hA : ∀ j : Int, 0 ≤ j → j < 2142 → A' r' j = A r j) : rlL C' A' s' r' := by
  have w4 : A r 4 ≤ 8 := (hW 4 (by decide) (by decide)).2
  have w5 : A r 5 ≤ 8 := (hW 5 (by decide) (by decide)).2
  have w6 : A r 6 ≤ 8 := (hW 6 (by decide) (by decide)).2
  have w7 : A r 7 ≤ 6 := (hW 7 (by decide) (by decide)).2
  have w8 : A r 8 ≤ 8 := (hW 8 (by decide) (by decide)).2
  have w9 : A r 9 ≤ 8 := (hW 9 (by decide) (by decide)).2
  obtain ⟨⟨a1, b1⟩, ⟨a2, b2⟩, ⟨a3, b3⟩, ⟨a4, b4⟩, ⟨a5, b5⟩, ⟨a6, b6⟩, b7⟩ := h
  obtain ⟨x1, y1⟩ := hT 166 (by omega)
  obtain ⟨x2, y2⟩ := hT 170 (by omega)
  obtain ⟨x3, y3⟩ := hT 174 (by omega)
  obtain ⟨x4, y4⟩ := hT 178 (by omega)
  obtain ⟨x5, y5⟩ := hT 182 (by omega)
  obtain ⟨x6, y6⟩ := hT 186 (by omega)
  unfold rlL
  rw [hA 4 (by omega) (by omega), hA 5 (by omega) (by omega), hA 6 (by omega) (by omega), hA 7 (by omega) (by omega), hA 8 (by omega) (by omega), hA 9 (by omega) (by omega), hA 14 (by omega) (by omega), x1, x2, x3, x4, x5, x6]
  refine ⟨⟨a1, fun i g0 g1 => ?_⟩, ⟨a2, fun i g0 g1 => ?_⟩, ⟨a3, fun i g0 g1 => ?_⟩, ⟨a4, fun i g0 g1 => ?_⟩, ⟨a5, fun i g0 g1 => ?_⟩, ⟨a6, fun i g0 g1 => ?_⟩, hs⟩
  · have z1 := y1 1 i (by decide) (by decide) g0 (by omega)
    have z2 := y1 2 i (by decide) (by decide) g0 (by omega)
    rw [Int.add_assoc, Int.add_assoc] at z1 z2
    rw [show C' (s' + 167) i = C (s + 167) i from z1, show C' (s' + 168) i = C (s + 168) i from z2, hA (114 + 2 * i) (by omega) (by omega), hA (114 + 2 * i + 1) (by omega) (by omega)]
    exact b1 i g0 g1
  · have z1 := y2 1 i (by decide) (by decide) g0 (by omega)
    rw [Int.add_assoc, Int.add_assoc] at z1
    rw [show C' (s' + 171) i = C (s + 171) i from z1, hA _ (by omega) (by omega)]
    exact b2 i g0 g1
  · have z1 := y3 1 i (by decide) (by decide) g0 (by omega)
    have z2 := y3 2 i (by decide) (by decide) g0 (by omega)
    have z3 := y3 3 i (by decide) (by decide) g0 (by omega)
    rw [Int.add_assoc, Int.add_assoc] at z1 z2 z3
    rw [show C' (s' + 175) i = C (s + 175) i from z1, show C' (s' + 176) i = C (s + 176) i from z2, show C' (s' + 177) i = C (s + 177) i from z3, hA (138 + 3 * i) (by omega) (by omega), hA (138 + 3 * i + 1) (by omega) (by omega), hA (138 + 3 * i + 2) (by omega) (by omega)]
    exact b3 i g0 g1
  · have z1 := y4 1 i (by decide) (by decide) g0 (by omega)
    rw [Int.add_assoc, Int.add_assoc] at z1
    rw [show C' (s' + 179) i = C (s + 179) i from z1, hA _ (by omega) (by omega)]
    exact b4 i g0 g1
  · have z1 := y5 1 i (by decide) (by decide) g0 (by omega)
    rw [Int.add_assoc, Int.add_assoc] at z1
    rw [show C' (s' + 183) i = C (s + 183) i from z1, hA _ (by omega) (by omega)]
    exact b5 i g0 g1
  · have z1 := y6 1 i (by decide) (by decide) g0 (by omega)
    have z2 := y6 2 i (by decide) (by decide) g0 (by omega)
    rw [Int.add_assoc, Int.add_assoc] at z1 z2
    rw [show C' (s' + 187) i = C (s + 187) i from z1, show C' (s' + 188) i = C (s + 188) i from z2, hA (176 + 2 * i) (by omega) (by omega), hA (176 + 2 * i + 1) (by omega) (by omega)]
    exact b6 i g0 g1
theorem tcp_z {M : Me} {d s n a j : Int} (h : n ≤ j) (ha : a ≠ d) : tcp M d s n a j = M a j := by
  unfold tcp
  rw [cpy_out (by omega), cpy_out (by omega), cpy_out (by omega), up_ne (by omega)]
theorem sc_ir {M : Me} {u k j : Int} (hk : 0 ≤ k ∧ k ≤ 4) (hj : 0 ≤ j ∧ j < (if k < 2 then 5 else if k < 4 then 12 else 30)) (hu : 0 ≤ u) : ∀ i : Nat, i ≤ 30 → u < i → sc_i M i (247 + 5 * u + k) j = M (kp_s M u + k) j := by
  intro i
  induction i with
  | zero => intro _ h; omega
  | succ i ih =>
    intro hi h
    have hb := kp_sb (M := M) (i := (i : Int))
    by_cases e : u = (i : Int)
    · subst e
      have so : ∀ a j : Int, 57 ≤ a → a ≤ 206 → sc_i M i a j = M a j := fun a j q0 q1 => sc_io i (by omega) (by omega)
      rcases (show k = 0 ∨ k = 1 ∨ k = 2 ∨ k = 3 ∨ k = 4 by omega) with q | q | q | q | q <;> subst q
      · rw [if_pos (by decide)] at hj
        exact (mcp_0 (by omega) (by omega) hj).trans ((so _ _ (by omega) (by omega)).trans (by rw [Int.add_zero]))
      · rw [if_pos (by decide)] at hj
        exact (mcp_1 (by omega) (by omega) hj).trans (so _ _ (by omega) (by omega))
      · rw [if_neg (by decide), if_pos (by decide)] at hj
        exact (mcp_2 (by omega) (by omega) hj).trans (so _ _ (by omega) (by omega))
      · rw [if_neg (by decide), if_pos (by decide)] at hj
        exact (mcp_3 (by omega) (by omega) hj).trans (so _ _ (by omega) (by omega))
      · rw [if_neg (by decide), if_neg (by decide)] at hj
        exact (mcp_4 (by omega) (by omega) hj).trans (so _ _ (by omega) (by omega))
    · exact (mcp_o (by omega)).trans (ih (by omega) (by omega))
theorem sp_ix {M : Me} {n : Nat} {a j : Int} (h : a ≤ 396 ∨ 215 ≤ a ∨ a < 239) (h2 : a ≤ 396 ∨ a < 239 ∨ 428 < a) : sp_i M n a j = sp_i2 M n a j := by
  unfold sp_i sp_i3
  rw [tcp_o (by omega), tcp_o (by omega), tcp_o (by omega), tcp_o (by omega), tcp_o (by omega), tcp_o (by omega), cpy_out (by omega), cpy_out (by omega), cpy_out (by omega), cpy_out (by omega), cpy_out (by omega), cpy_out (by omega), cpy_out (by omega), cpy_out (by omega)]
theorem sp_ih {M : Me} {n : Nat} (hn : n ≤ 30) {j : Int} (h : 0 ≤ j ∧ j < 3) : sp_i M n 239 j = M 49 j := by
  rw [sp_ix (by omega) (by omega)]
  refine (sc_io n hn (by omega)).trans ((mcp_o (by omega)).trans ?_)
  rcases (show j = 0 ∨ j = 1 ∨ j = 2 by omega) with q | q | q <;> subst q
  · exact (up_ne (by omega)).trans ((up_ne (by omega)).trans (up_eq ⟨rfl, rfl⟩))
  · exact (up_ne (by omega)).trans (up_eq ⟨rfl, rfl⟩)
  · exact up_eq ⟨rfl, rfl⟩
theorem sp_in {M : Me} {n : Nat} (hn : n ≤ 30) {k j : Int} (hk : 0 ≤ k ∧ k ≤ 4) (hj : 0 ≤ j ∧ j < (if k < 2 then 5 else if k < 4 then 12 else 30)) : sp_i M n (240 + k) j = M (50 + k) j := by
  rw [sp_ix (by omega) (by omega)]
  refine (sc_io n hn (by omega)).trans ?_
  have so : ∀ a j : Int, a ≠ 239 → up (up (up M 239 0 (M 49 0)) 239 1 (M 49 1)) 239 2 (M 49 2) a j = M a j := fun a j q => (up_ne (by omega)).trans ((up_ne (by omega)).trans (up_ne (by omega)))
  rcases (show k = 0 ∨ k = 1 ∨ k = 2 ∨ k = 3 ∨ k = 4 by omega) with q | q | q | q | q <;> subst q
  · rw [if_pos (by decide)] at hj
    exact (mcp_0 (by omega) (by omega) hj).trans (so _ _ (by omega))
  · rw [if_pos (by decide)] at hj
    exact (mcp_1 (by omega) (by omega) hj).trans (so _ _ (by omega))
  · rw [if_neg (by decide), if_pos (by decide)] at hj
    exact (mcp_2 (by omega) (by omega) hj).trans (so _ _ (by omega))
  · rw [if_neg (by decide), if_pos (by decide)] at hj
    exact (mcp_3 (by omega) (by omega) hj).trans (so _ _ (by omega))
  · rw [if_neg (by decide), if_neg (by decide)] at hj
    exact (mcp_4 (by omega) (by omega) hj).trans (so _ _ (by omega))
theorem sp_is {M : Me} {n : Nat} (hn : n ≤ 30) : sp_i M n 245 0 = M 55 0 ∧ sp_i M n 245 1 = 0 := by
  rw [sp_ix (by omega) (by omega), sp_ix (by omega) (by omega)]
  exact ⟨(sc_i0 n hn).1.trans (sp_i1o (by omega)), (sc_i0 n hn).2⟩
theorem sp_im {M : Me} {n : Nat} (hn : n ≤ 30) {u k j : Int} (hu : 0 ≤ u ∧ u < n) (hk : 0 ≤ k ∧ k ≤ 4) (hj : 0 ≤ j ∧ j < (if k < 2 then 5 else if k < 4 then 12 else 30)) : sp_i M n (247 + 5 * u + k) j = M (57 + 5 * ((M 55 1 + u) % 30) + k) j := by
  rw [sp_ix (by omega) (by omega)]
  refine (sc_ir hk hj hu.1 n hn hu.2).trans ?_
  have hb := kp_sb (M := sp_i1 M) (i := u)
  rw [sp_i1o (by omega)]
  unfold kp_s
  rw [sp_i1o (by omega)]
theorem sp_ik {M : Me} {n : Nat} (hn : n ≤ 30) {k j : Int} (hk : 158 ≤ k ∧ k ≤ 165) (hj : 0 ≤ j ∧ j < (if k < 160 then 5 else 12)) : sp_i M n (239 + k) j = M (49 + k) j := by
  unfold sp_i
  rw [tcp_o (by omega), tcp_o (by omega), tcp_o (by omega), tcp_o (by omega), tcp_o (by omega), tcp_o (by omega)]
  unfold sp_i3
  have so : ∀ a j : Int, ¬ (239 ≤ a ∧ a ≤ 396) → sp_i2 M n a j = M a j := fun a j q => sp_i2o hn q
  rcases (show k = 158 ∨ k = 159 ∨ k = 160 ∨ k = 161 ∨ k = 162 ∨ k = 163 ∨ k = 164 ∨ k = 165 by omega) with q | q | q | q | q | q | q | q <;> subst q
  · rw [if_pos (by decide)] at hj
    exact (cpy_out (by omega)).trans ((cpy_out (by omega)).trans ((cpy_out (by omega)).trans ((cpy_out (by omega)).trans ((cpy_out (by omega)).trans ((cpy_out (by omega)).trans ((cpy_out (by omega)).trans ((cpy_in ⟨rfl, by omega⟩).trans ((so _ _ (by omega)).trans (by congr 1; omega)))))))))
  · rw [if_pos (by decide)] at hj
    exact (cpy_out (by omega)).trans ((cpy_out (by omega)).trans ((cpy_out (by omega)).trans ((cpy_out (by omega)).trans ((cpy_out (by omega)).trans ((cpy_out (by omega)).trans ((cpy_in ⟨rfl, by omega⟩).trans ((cpy_out (by omega)).trans ((so _ _ (by omega)).trans (by congr 1; omega)))))))))
  · rw [if_neg (by decide)] at hj
    exact (cpy_out (by omega)).trans ((cpy_out (by omega)).trans ((cpy_out (by omega)).trans ((cpy_out (by omega)).trans ((cpy_out (by omega)).trans ((cpy_in ⟨rfl, by omega⟩).trans ((cpy_out (by omega)).trans ((cpy_out (by omega)).trans ((so _ _ (by omega)).trans (by congr 1; omega)))))))))
  · rw [if_neg (by decide)] at hj
    exact (cpy_out (by omega)).trans ((cpy_out (by omega)).trans ((cpy_out (by omega)).trans ((cpy_out (by omega)).trans ((cpy_in ⟨rfl, by omega⟩).trans ((cpy_out (by omega)).trans ((cpy_out (by omega)).trans ((cpy_out (by omega)).trans ((so _ _ (by omega)).trans (by congr 1; omega)))))))))
  · rw [if_neg (by decide)] at hj
    exact (cpy_out (by omega)).trans ((cpy_out (by omega)).trans ((cpy_out (by omega)).trans ((cpy_in ⟨rfl, by omega⟩).trans ((cpy_out (by omega)).trans ((cpy_out (by omega)).trans ((cpy_out (by omega)).trans ((cpy_out (by omega)).trans ((so _ _ (by omega)).trans (by congr 1; omega)))))))))
  · rw [if_neg (by decide)] at hj
    exact (cpy_out (by omega)).trans ((cpy_out (by omega)).trans ((cpy_in ⟨rfl, by omega⟩).trans ((cpy_out (by omega)).trans ((cpy_out (by omega)).trans ((cpy_out (by omega)).trans ((cpy_out (by omega)).trans ((cpy_out (by omega)).trans ((so _ _ (by omega)).trans (by congr 1; omega)))))))))
  · rw [if_neg (by decide)] at hj
    exact (cpy_out (by omega)).trans ((cpy_in ⟨rfl, by omega⟩).trans ((cpy_out (by omega)).trans ((cpy_out (by omega)).trans ((cpy_out (by omega)).trans ((cpy_out (by omega)).trans ((cpy_out (by omega)).trans ((cpy_out (by omega)).trans ((so _ _ (by omega)).trans (by congr 1; omega)))))))))
  · rw [if_neg (by decide)] at hj
    exact (cpy_in ⟨rfl, by omega⟩).trans ((cpy_out (by omega)).trans ((cpy_out (by omega)).trans ((cpy_out (by omega)).trans ((cpy_out (by omega)).trans ((cpy_out (by omega)).trans ((cpy_out (by omega)).trans ((cpy_out (by omega)).trans ((so _ _ (by omega)).trans (by congr 1; omega)))))))))
theorem sp_il {M : Me} {n : Nat} (hn : n ≤ 30) {k : Int} (hk : k = 166 ∨ k = 170 ∨ k = 174 ∨ k = 178 ∨ k = 182 ∨ k = 186) : sp_i M n (239 + k) 0 = M (49 + k) 0 ∧ ∀ i j : Int, 1 ≤ i → i ≤ 3 → 0 ≤ j → j < M (49 + k) 0 → sp_i M n (239 + k + i) j = M (49 + k + i) j := by
  have so : ∀ a j : Int, ¬ (239 ≤ a ∧ a ≤ 404) → sp_i3 M n a j = M a j := fun a j q => sp_i3o hn q
  unfold sp_i
  rcases hk with q | q | q | q | q | q <;> subst q
  · refine ⟨(tcp_o (by omega)).trans ((tcp_o (by omega)).trans ((tcp_o (by omega)).trans ((tcp_o (by omega)).trans ((tcp_o (by omega)).trans (tcp_0))))), fun i j h1 h3 q0 q1 => ?_⟩
    refine (tcp_o (by omega)).trans ((tcp_o (by omega)).trans ((tcp_o (by omega)).trans ((tcp_o (by omega)).trans ((tcp_o (by omega)).trans (?_)))))
    rcases (show i = 1 ∨ i = 2 ∨ i = 3 by omega) with q | q | q <;> subst q
    · exact (tcp_1 (by omega) (by omega) ⟨q0, q1⟩).trans (so _ _ (by omega))
    · exact (tcp_2 (by omega) (by omega) ⟨q0, q1⟩).trans (so _ _ (by omega))
    · exact (tcp_3 (by omega) (by omega) ⟨q0, q1⟩).trans (so _ _ (by omega))
  · refine ⟨(tcp_o (by omega)).trans ((tcp_o (by omega)).trans ((tcp_o (by omega)).trans ((tcp_o (by omega)).trans (tcp_0)))), fun i j h1 h3 q0 q1 => ?_⟩
    refine (tcp_o (by omega)).trans ((tcp_o (by omega)).trans ((tcp_o (by omega)).trans ((tcp_o (by omega)).trans (?_))))
    rcases (show i = 1 ∨ i = 2 ∨ i = 3 by omega) with q | q | q <;> subst q
    · exact (tcp_1 (by omega) (by omega) ⟨q0, q1⟩).trans ((tcp_o (by omega)).trans (so _ _ (by omega)))
    · exact (tcp_2 (by omega) (by omega) ⟨q0, q1⟩).trans ((tcp_o (by omega)).trans (so _ _ (by omega)))
    · exact (tcp_3 (by omega) (by omega) ⟨q0, q1⟩).trans ((tcp_o (by omega)).trans (so _ _ (by omega)))
  · refine ⟨(tcp_o (by omega)).trans ((tcp_o (by omega)).trans ((tcp_o (by omega)).trans (tcp_0))), fun i j h1 h3 q0 q1 => ?_⟩
    refine (tcp_o (by omega)).trans ((tcp_o (by omega)).trans ((tcp_o (by omega)).trans (?_)))
    rcases (show i = 1 ∨ i = 2 ∨ i = 3 by omega) with q | q | q <;> subst q
    · exact (tcp_1 (by omega) (by omega) ⟨q0, q1⟩).trans ((tcp_o (by omega)).trans ((tcp_o (by omega)).trans (so _ _ (by omega))))
    · exact (tcp_2 (by omega) (by omega) ⟨q0, q1⟩).trans ((tcp_o (by omega)).trans ((tcp_o (by omega)).trans (so _ _ (by omega))))
    · exact (tcp_3 (by omega) (by omega) ⟨q0, q1⟩).trans ((tcp_o (by omega)).trans ((tcp_o (by omega)).trans (so _ _ (by omega))))
  · refine ⟨(tcp_o (by omega)).trans ((tcp_o (by omega)).trans (tcp_0)), fun i j h1 h3 q0 q1 => ?_⟩
    refine (tcp_o (by omega)).trans ((tcp_o (by omega)).trans (?_))
    rcases (show i = 1 ∨ i = 2 ∨ i = 3 by omega) with q | q | q <;> subst q
    · exact (tcp_1 (by omega) (by omega) ⟨q0, q1⟩).trans ((tcp_o (by omega)).trans ((tcp_o (by omega)).trans ((tcp_o (by omega)).trans (so _ _ (by omega)))))
    · exact (tcp_2 (by omega) (by omega) ⟨q0, q1⟩).trans ((tcp_o (by omega)).trans ((tcp_o (by omega)).trans ((tcp_o (by omega)).trans (so _ _ (by omega)))))
    · exact (tcp_3 (by omega) (by omega) ⟨q0, q1⟩).trans ((tcp_o (by omega)).trans ((tcp_o (by omega)).trans ((tcp_o (by omega)).trans (so _ _ (by omega)))))
  · refine ⟨(tcp_o (by omega)).trans (tcp_0), fun i j h1 h3 q0 q1 => ?_⟩
    refine (tcp_o (by omega)).trans (?_)
    rcases (show i = 1 ∨ i = 2 ∨ i = 3 by omega) with q | q | q <;> subst q
    · exact (tcp_1 (by omega) (by omega) ⟨q0, q1⟩).trans ((tcp_o (by omega)).trans ((tcp_o (by omega)).trans ((tcp_o (by omega)).trans ((tcp_o (by omega)).trans (so _ _ (by omega))))))
    · exact (tcp_2 (by omega) (by omega) ⟨q0, q1⟩).trans ((tcp_o (by omega)).trans ((tcp_o (by omega)).trans ((tcp_o (by omega)).trans ((tcp_o (by omega)).trans (so _ _ (by omega))))))
    · exact (tcp_3 (by omega) (by omega) ⟨q0, q1⟩).trans ((tcp_o (by omega)).trans ((tcp_o (by omega)).trans ((tcp_o (by omega)).trans ((tcp_o (by omega)).trans (so _ _ (by omega))))))
  · refine ⟨tcp_0, fun i j h1 h3 q0 q1 => ?_⟩
    refine ?_
    rcases (show i = 1 ∨ i = 2 ∨ i = 3 by omega) with q | q | q <;> subst q
    · exact (tcp_1 (by omega) (by omega) ⟨q0, q1⟩).trans ((tcp_o (by omega)).trans ((tcp_o (by omega)).trans ((tcp_o (by omega)).trans ((tcp_o (by omega)).trans ((tcp_o (by omega)).trans (so _ _ (by omega)))))))
    · exact (tcp_2 (by omega) (by omega) ⟨q0, q1⟩).trans ((tcp_o (by omega)).trans ((tcp_o (by omega)).trans ((tcp_o (by omega)).trans ((tcp_o (by omega)).trans ((tcp_o (by omega)).trans (so _ _ (by omega)))))))
    · exact (tcp_3 (by omega) (by omega) ⟨q0, q1⟩).trans ((tcp_o (by omega)).trans ((tcp_o (by omega)).trans ((tcp_o (by omega)).trans ((tcp_o (by omega)).trans ((tcp_o (by omega)).trans (so _ _ (by omega)))))))
theorem sp_iz {M : Me} {n : Nat} (hn : n ≤ 30) {j : Int} (hj : M 223 0 ≤ j) : sp_i M n 416 j = M 416 j := by
  unfold sp_i
  exact (tcp_o (by omega)).trans ((tcp_o (by omega)).trans ((tcp_o (by omega)).trans ((tcp_z hj (by omega)).trans ((tcp_o (by omega)).trans ((tcp_o (by omega)).trans (sp_i3o hn (by omega)))))))
theorem rlS.i {C A : Me} {n : Nat} (h : rlS C A 49 430) (hW : WR A 430) (hn : A 430 3 = (n : Int)) (hs : ∀ j : Int, 0 ≤ j → j < 8 → 0 ≤ C 416 j ∧ C 416 j ≤ 999) : rlS (sp_i C n) (cpy A 430 0 431 0 2142) 239 431 := by
  have w0 := wr_0 hW
  have w3 := wr_3 hW
  have w14 := wr_14 hW
  have hn30 : n ≤ 30 := by omega
  have hA : ∀ j : Int, 0 ≤ j → j < 2142 → cpy A 430 0 431 0 2142 431 j = A 430 j := fun j q0 q1 => (cpy_in ⟨rfl, by omega⟩).trans (by congr 1; omega)
  obtain ⟨h1, h2, h3, h4, h5, h6⟩ := h
  refine ⟨h1.mv (fun j q0 q1 => sp_ih hn30 ⟨q0, q1⟩) hA, ?_, ?_, h4.mv w0.2 (fun j q0 q1 => sp_ik hn30 (by decide) ⟨q0, by rw [if_pos (by decide)]; exact q1⟩) (fun j q0 q1 => sp_ik hn30 (by decide) ⟨q0, by rw [if_pos (by decide)]; exact q1⟩) hA, h5.mv w14.2 (fun k j k0 k1 q0 q1 => sp_ik hn30 (by omega) ⟨q0, by rw [if_neg (by omega)]; exact q1⟩) hA, h6.mv hW (fun k hk => sp_il hn30 hk) (fun j q0 q1 => ?_) hA⟩
  · refine h2.mv (fun j q0 q1 => ?_) (fun j q0 q1 => sp_in (k := 1) hn30 (by decide) ⟨q0, by rw [if_pos (by decide)]; exact q1⟩) (fun j q0 q1 => sp_in (k := 2) hn30 (by decide) ⟨q0, by rw [if_neg (by decide), if_pos (by decide)]; exact q1⟩) (fun j q0 q1 => sp_in (k := 3) hn30 (by decide) ⟨q0, by rw [if_neg (by decide), if_pos (by decide)]; exact q1⟩) (fun j q0 q1 => sp_in (k := 4) hn30 (by decide) ⟨q0, by rw [if_neg (by decide), if_neg (by decide)]; exact q1⟩) hA w0.2 w14.2
    exact sp_in (k := 0) hn30 (by decide) ⟨q0, by rw [if_pos (by decide)]; exact q1⟩
  · exact h3.mv hW (sp_is hn30).1 (sp_is hn30).2 (fun u u0 u1 k j k0 k1 q0 q1 => sp_im hn30 ⟨u0, by omega⟩ ⟨k0, k1⟩ ⟨q0, q1⟩) hA
  · by_cases q : j < C 223 0
    · have e := (sp_il (M := C) (n := n) hn30 (k := 174) (by omega)).2 3 j (by decide) (by decide) q0 q
      rw [show sp_i C n (239 + 177) j = C (49 + 177) j from e]
      exact h6.2.2.2.2.2.2 j q0 q1
    · rw [show sp_i C n (239 + 177) j = C 416 j from sp_iz hn30 (by omega)]
      exact hs j q0 q1
theorem sc_br {M : Me} {u k j : Int} (hk : 0 ≤ k ∧ k ≤ 4) (hj : 0 ≤ j ∧ j < (if k < 2 then 5 else if k < 4 then 12 else 30)) (hu : 0 ≤ u) : ∀ i : Nat, i ≤ 30 → u < i → sc_b M i (57 + 5 * u + k) j = M (kp_k M u + k) j := by
  intro i
  induction i with
  | zero => intro _ h; omega
  | succ i ih =>
    intro hi h
    have hb := kp_kb (M := M) (i := (i : Int))
    by_cases e : u = (i : Int)
    · subst e
      have so : ∀ a j : Int, 247 ≤ a → a ≤ 396 → sc_b M i a j = M a j := fun a j q0 q1 => sc_bo i (by omega) (by omega)
      rcases (show k = 0 ∨ k = 1 ∨ k = 2 ∨ k = 3 ∨ k = 4 by omega) with q | q | q | q | q <;> subst q
      · rw [if_pos (by decide)] at hj
        exact (mcp_0 (by omega) (by omega) hj).trans ((so _ _ (by omega) (by omega)).trans (by rw [Int.add_zero]))
      · rw [if_pos (by decide)] at hj
        exact (mcp_1 (by omega) (by omega) hj).trans (so _ _ (by omega) (by omega))
      · rw [if_neg (by decide), if_pos (by decide)] at hj
        exact (mcp_2 (by omega) (by omega) hj).trans (so _ _ (by omega) (by omega))
      · rw [if_neg (by decide), if_pos (by decide)] at hj
        exact (mcp_3 (by omega) (by omega) hj).trans (so _ _ (by omega) (by omega))
      · rw [if_neg (by decide), if_neg (by decide)] at hj
        exact (mcp_4 (by omega) (by omega) hj).trans (so _ _ (by omega) (by omega))
    · exact (mcp_o (by omega)).trans (ih (by omega) (by omega))
theorem sp_bx {M : Me} {n : Nat} {a j : Int} (h : a ≤ 206 ∨ 405 ≤ a ∨ a < 49) (h2 : a ≤ 206 ∨ a < 49 ∨ 238 < a) : sp_b M n a j = sp_b2 M n a j := by
  unfold sp_b sp_b3
  rw [tcp_o (by omega), tcp_o (by omega), tcp_o (by omega), tcp_o (by omega), tcp_o (by omega), tcp_o (by omega), cpy_out (by omega), cpy_out (by omega), cpy_out (by omega), cpy_out (by omega), cpy_out (by omega), cpy_out (by omega), cpy_out (by omega), cpy_out (by omega)]
theorem sp_bh {M : Me} {n : Nat} (hn : n ≤ 30) {j : Int} (h : 0 ≤ j ∧ j < 3) : sp_b M n 49 j = M 239 j := by
  rw [sp_bx (by omega) (by omega)]
  refine (sc_bo n hn (by omega)).trans ((mcp_o (by omega)).trans ?_)
  rcases (show j = 0 ∨ j = 1 ∨ j = 2 by omega) with q | q | q <;> subst q
  · exact (up_ne (by omega)).trans ((up_ne (by omega)).trans (up_eq ⟨rfl, rfl⟩))
  · exact (up_ne (by omega)).trans (up_eq ⟨rfl, rfl⟩)
  · exact up_eq ⟨rfl, rfl⟩
theorem sp_bn {M : Me} {n : Nat} (hn : n ≤ 30) {k j : Int} (hk : 0 ≤ k ∧ k ≤ 4) (hj : 0 ≤ j ∧ j < (if k < 2 then 5 else if k < 4 then 12 else 30)) : sp_b M n (50 + k) j = M (240 + k) j := by
  rw [sp_bx (by omega) (by omega)]
  refine (sc_bo n hn (by omega)).trans ?_
  have so : ∀ a j : Int, a ≠ 49 → up (up (up M 49 0 (M 239 0)) 49 1 (M 239 1)) 49 2 (M 239 2) a j = M a j := fun a j q => (up_ne (by omega)).trans ((up_ne (by omega)).trans (up_ne (by omega)))
  rcases (show k = 0 ∨ k = 1 ∨ k = 2 ∨ k = 3 ∨ k = 4 by omega) with q | q | q | q | q <;> subst q
  · rw [if_pos (by decide)] at hj
    exact (mcp_0 (by omega) (by omega) hj).trans (so _ _ (by omega))
  · rw [if_pos (by decide)] at hj
    exact (mcp_1 (by omega) (by omega) hj).trans (so _ _ (by omega))
  · rw [if_neg (by decide), if_pos (by decide)] at hj
    exact (mcp_2 (by omega) (by omega) hj).trans (so _ _ (by omega))
  · rw [if_neg (by decide), if_pos (by decide)] at hj
    exact (mcp_3 (by omega) (by omega) hj).trans (so _ _ (by omega))
  · rw [if_neg (by decide), if_neg (by decide)] at hj
    exact (mcp_4 (by omega) (by omega) hj).trans (so _ _ (by omega))
theorem sp_bs {M : Me} {n : Nat} (hn : n ≤ 30) : sp_b M n 55 0 = M 245 0 ∧ sp_b M n 55 1 = 0 := by
  rw [sp_bx (by omega) (by omega), sp_bx (by omega) (by omega)]
  exact ⟨(sc_b0 n hn).1.trans (sp_b1o (by omega)), (sc_b0 n hn).2⟩
theorem sp_bm {M : Me} {n : Nat} (hn : n ≤ 30) {u k j : Int} (hu : 0 ≤ u ∧ u < n) (hk : 0 ≤ k ∧ k ≤ 4) (hj : 0 ≤ j ∧ j < (if k < 2 then 5 else if k < 4 then 12 else 30)) : sp_b M n (57 + 5 * u + k) j = M (247 + 5 * ((M 245 1 + u) % 30) + k) j := by
  rw [sp_bx (by omega) (by omega)]
  refine (sc_br hk hj hu.1 n hn hu.2).trans ?_
  have hb := kp_kb (M := sp_b1 M) (i := u)
  rw [sp_b1o (by omega)]
  unfold kp_k
  rw [sp_b1o (by omega)]
theorem sp_bk {M : Me} {n : Nat} (hn : n ≤ 30) {k j : Int} (hk : 158 ≤ k ∧ k ≤ 165) (hj : 0 ≤ j ∧ j < (if k < 160 then 5 else 12)) : sp_b M n (49 + k) j = M (239 + k) j := by
  unfold sp_b
  rw [tcp_o (by omega), tcp_o (by omega), tcp_o (by omega), tcp_o (by omega), tcp_o (by omega), tcp_o (by omega)]
  unfold sp_b3
  have so : ∀ a j : Int, ¬ (49 ≤ a ∧ a ≤ 206) → sp_b2 M n a j = M a j := fun a j q => sp_b2o hn q
  rcases (show k = 158 ∨ k = 159 ∨ k = 160 ∨ k = 161 ∨ k = 162 ∨ k = 163 ∨ k = 164 ∨ k = 165 by omega) with q | q | q | q | q | q | q | q <;> subst q
  · rw [if_pos (by decide)] at hj
    exact (cpy_out (by omega)).trans ((cpy_out (by omega)).trans ((cpy_out (by omega)).trans ((cpy_out (by omega)).trans ((cpy_out (by omega)).trans ((cpy_out (by omega)).trans ((cpy_out (by omega)).trans ((cpy_in ⟨rfl, by omega⟩).trans ((so _ _ (by omega)).trans (by congr 1; omega)))))))))
  · rw [if_pos (by decide)] at hj
    exact (cpy_out (by omega)).trans ((cpy_out (by omega)).trans ((cpy_out (by omega)).trans ((cpy_out (by omega)).trans ((cpy_out (by omega)).trans ((cpy_out (by omega)).trans ((cpy_in ⟨rfl, by omega⟩).trans ((cpy_out (by omega)).trans ((so _ _ (by omega)).trans (by congr 1; omega)))))))))
  · rw [if_neg (by decide)] at hj
    exact (cpy_out (by omega)).trans ((cpy_out (by omega)).trans ((cpy_out (by omega)).trans ((cpy_out (by omega)).trans ((cpy_out (by omega)).trans ((cpy_in ⟨rfl, by omega⟩).trans ((cpy_out (by omega)).trans ((cpy_out (by omega)).trans ((so _ _ (by omega)).trans (by congr 1; omega)))))))))
  · rw [if_neg (by decide)] at hj
    exact (cpy_out (by omega)).trans ((cpy_out (by omega)).trans ((cpy_out (by omega)).trans ((cpy_out (by omega)).trans ((cpy_in ⟨rfl, by omega⟩).trans ((cpy_out (by omega)).trans ((cpy_out (by omega)).trans ((cpy_out (by omega)).trans ((so _ _ (by omega)).trans (by congr 1; omega)))))))))
  · rw [if_neg (by decide)] at hj
    exact (cpy_out (by omega)).trans ((cpy_out (by omega)).trans ((cpy_out (by omega)).trans ((cpy_in ⟨rfl, by omega⟩).trans ((cpy_out (by omega)).trans ((cpy_out (by omega)).trans ((cpy_out (by omega)).trans ((cpy_out (by omega)).trans ((so _ _ (by omega)).trans (by congr 1; omega)))))))))
  · rw [if_neg (by decide)] at hj
    exact (cpy_out (by omega)).trans ((cpy_out (by omega)).trans ((cpy_in ⟨rfl, by omega⟩).trans ((cpy_out (by omega)).trans ((cpy_out (by omega)).trans ((cpy_out (by omega)).trans ((cpy_out (by omega)).trans ((cpy_out (by omega)).trans ((so _ _ (by omega)).trans (by congr 1; omega)))))))))
  · rw [if_neg (by decide)] at hj
    exact (cpy_out (by omega)).trans ((cpy_in ⟨rfl, by omega⟩).trans ((cpy_out (by omega)).trans ((cpy_out (by omega)).trans ((cpy_out (by omega)).trans ((cpy_out (by omega)).trans ((cpy_out (by omega)).trans ((cpy_out (by omega)).trans ((so _ _ (by omega)).trans (by congr 1; omega)))))))))
  · rw [if_neg (by decide)] at hj
    exact (cpy_in ⟨rfl, by omega⟩).trans ((cpy_out (by omega)).trans ((cpy_out (by omega)).trans ((cpy_out (by omega)).trans ((cpy_out (by omega)).trans ((cpy_out (by omega)).trans ((cpy_out (by omega)).trans ((cpy_out (by omega)).trans ((so _ _ (by omega)).trans (by congr 1; omega)))))))))
theorem sp_bl {M : Me} {n : Nat} (hn : n ≤ 30) {k : Int} (hk : k = 166 ∨ k = 170 ∨ k = 174 ∨ k = 178 ∨ k = 182 ∨ k = 186) : sp_b M n (49 + k) 0 = M (239 + k) 0 ∧ ∀ i j : Int, 1 ≤ i → i ≤ 3 → 0 ≤ j → j < M (239 + k) 0 → sp_b M n (49 + k + i) j = M (239 + k + i) j := by
  have so : ∀ a j : Int, ¬ (49 ≤ a ∧ a ≤ 214) → sp_b3 M n a j = M a j := fun a j q => sp_b3o hn q
  unfold sp_b
  rcases hk with q | q | q | q | q | q <;> subst q
  · refine ⟨(tcp_o (by omega)).trans ((tcp_o (by omega)).trans ((tcp_o (by omega)).trans ((tcp_o (by omega)).trans ((tcp_o (by omega)).trans (tcp_0))))), fun i j h1 h3 q0 q1 => ?_⟩
    refine (tcp_o (by omega)).trans ((tcp_o (by omega)).trans ((tcp_o (by omega)).trans ((tcp_o (by omega)).trans ((tcp_o (by omega)).trans (?_)))))
    rcases (show i = 1 ∨ i = 2 ∨ i = 3 by omega) with q | q | q <;> subst q
    · exact (tcp_1 (by omega) (by omega) ⟨q0, q1⟩).trans (so _ _ (by omega))
    · exact (tcp_2 (by omega) (by omega) ⟨q0, q1⟩).trans (so _ _ (by omega))
    · exact (tcp_3 (by omega) (by omega) ⟨q0, q1⟩).trans (so _ _ (by omega))
  · refine ⟨(tcp_o (by omega)).trans ((tcp_o (by omega)).trans ((tcp_o (by omega)).trans ((tcp_o (by omega)).trans (tcp_0)))), fun i j h1 h3 q0 q1 => ?_⟩
    refine (tcp_o (by omega)).trans ((tcp_o (by omega)).trans ((tcp_o (by omega)).trans ((tcp_o (by omega)).trans (?_))))
    rcases (show i = 1 ∨ i = 2 ∨ i = 3 by omega) with q | q | q <;> subst q
    · exact (tcp_1 (by omega) (by omega) ⟨q0, q1⟩).trans ((tcp_o (by omega)).trans (so _ _ (by omega)))
    · exact (tcp_2 (by omega) (by omega) ⟨q0, q1⟩).trans ((tcp_o (by omega)).trans (so _ _ (by omega)))
    · exact (tcp_3 (by omega) (by omega) ⟨q0, q1⟩).trans ((tcp_o (by omega)).trans (so _ _ (by omega)))
  · refine ⟨(tcp_o (by omega)).trans ((tcp_o (by omega)).trans ((tcp_o (by omega)).trans (tcp_0))), fun i j h1 h3 q0 q1 => ?_⟩
    refine (tcp_o (by omega)).trans ((tcp_o (by omega)).trans ((tcp_o (by omega)).trans (?_)))
    rcases (show i = 1 ∨ i = 2 ∨ i = 3 by omega) with q | q | q <;> subst q
    · exact (tcp_1 (by omega) (by omega) ⟨q0, q1⟩).trans ((tcp_o (by omega)).trans ((tcp_o (by omega)).trans (so _ _ (by omega))))
    · exact (tcp_2 (by omega) (by omega) ⟨q0, q1⟩).trans ((tcp_o (by omega)).trans ((tcp_o (by omega)).trans (so _ _ (by omega))))
    · exact (tcp_3 (by omega) (by omega) ⟨q0, q1⟩).trans ((tcp_o (by omega)).trans ((tcp_o (by omega)).trans (so _ _ (by omega))))
  · refine ⟨(tcp_o (by omega)).trans ((tcp_o (by omega)).trans (tcp_0)), fun i j h1 h3 q0 q1 => ?_⟩
    refine (tcp_o (by omega)).trans ((tcp_o (by omega)).trans (?_))
    rcases (show i = 1 ∨ i = 2 ∨ i = 3 by omega) with q | q | q <;> subst q
    · exact (tcp_1 (by omega) (by omega) ⟨q0, q1⟩).trans ((tcp_o (by omega)).trans ((tcp_o (by omega)).trans ((tcp_o (by omega)).trans (so _ _ (by omega)))))
    · exact (tcp_2 (by omega) (by omega) ⟨q0, q1⟩).trans ((tcp_o (by omega)).trans ((tcp_o (by omega)).trans ((tcp_o (by omega)).trans (so _ _ (by omega)))))
    · exact (tcp_3 (by omega) (by omega) ⟨q0, q1⟩).trans ((tcp_o (by omega)).trans ((tcp_o (by omega)).trans ((tcp_o (by omega)).trans (so _ _ (by omega)))))
  · refine ⟨(tcp_o (by omega)).trans (tcp_0), fun i j h1 h3 q0 q1 => ?_⟩
    refine (tcp_o (by omega)).trans (?_)
    rcases (show i = 1 ∨ i = 2 ∨ i = 3 by omega) with q | q | q <;> subst q
    · exact (tcp_1 (by omega) (by omega) ⟨q0, q1⟩).trans ((tcp_o (by omega)).trans ((tcp_o (by omega)).trans ((tcp_o (by omega)).trans ((tcp_o (by omega)).trans (so _ _ (by omega))))))
    · exact (tcp_2 (by omega) (by omega) ⟨q0, q1⟩).trans ((tcp_o (by omega)).trans ((tcp_o (by omega)).trans ((tcp_o (by omega)).trans ((tcp_o (by omega)).trans (so _ _ (by omega))))))
    · exact (tcp_3 (by omega) (by omega) ⟨q0, q1⟩).trans ((tcp_o (by omega)).trans ((tcp_o (by omega)).trans ((tcp_o (by omega)).trans ((tcp_o (by omega)).trans (so _ _ (by omega))))))
  · refine ⟨tcp_0, fun i j h1 h3 q0 q1 => ?_⟩
    refine ?_
    rcases (show i = 1 ∨ i = 2 ∨ i = 3 by omega) with q | q | q <;> subst q
    · exact (tcp_1 (by omega) (by omega) ⟨q0, q1⟩).trans ((tcp_o (by omega)).trans ((tcp_o (by omega)).trans ((tcp_o (by omega)).trans ((tcp_o (by omega)).trans ((tcp_o (by omega)).trans (so _ _ (by omega)))))))
    · exact (tcp_2 (by omega) (by omega) ⟨q0, q1⟩).trans ((tcp_o (by omega)).trans ((tcp_o (by omega)).trans ((tcp_o (by omega)).trans ((tcp_o (by omega)).trans ((tcp_o (by omega)).trans (so _ _ (by omega)))))))
    · exact (tcp_3 (by omega) (by omega) ⟨q0, q1⟩).trans ((tcp_o (by omega)).trans ((tcp_o (by omega)).trans ((tcp_o (by omega)).trans ((tcp_o (by omega)).trans ((tcp_o (by omega)).trans (so _ _ (by omega)))))))
theorem sp_bz {M : Me} {n : Nat} (hn : n ≤ 30) {j : Int} (hj : M 413 0 ≤ j) : sp_b M n 226 j = M 226 j := by
  unfold sp_b
  exact (tcp_o (by omega)).trans ((tcp_o (by omega)).trans ((tcp_o (by omega)).trans ((tcp_z hj (by omega)).trans ((tcp_o (by omega)).trans ((tcp_o (by omega)).trans (sp_b3o hn (by omega)))))))
theorem rlS.b {C A : Me} {n : Nat} (h : rlS C A 239 431) (hW : WR A 431) (hn : A 431 3 = (n : Int)) (hs : ∀ j : Int, 0 ≤ j → j < 8 → 0 ≤ C 226 j ∧ C 226 j ≤ 999) : rlS (sp_b C n) (cpy A 431 0 430 0 2142) 49 430 := by
  have w0 := wr_0 hW
  have w3 := wr_3 hW
  have w14 := wr_14 hW
  have hn30 : n ≤ 30 := by omega
  have hA : ∀ j : Int, 0 ≤ j → j < 2142 → cpy A 431 0 430 0 2142 430 j = A 431 j := fun j q0 q1 => (cpy_in ⟨rfl, by omega⟩).trans (by congr 1; omega)
  obtain ⟨h1, h2, h3, h4, h5, h6⟩ := h
  refine ⟨h1.mv (fun j q0 q1 => sp_bh hn30 ⟨q0, q1⟩) hA, ?_, ?_, h4.mv w0.2 (fun j q0 q1 => sp_bk hn30 (by decide) ⟨q0, by rw [if_pos (by decide)]; exact q1⟩) (fun j q0 q1 => sp_bk hn30 (by decide) ⟨q0, by rw [if_pos (by decide)]; exact q1⟩) hA, h5.mv w14.2 (fun k j k0 k1 q0 q1 => sp_bk hn30 (by omega) ⟨q0, by rw [if_neg (by omega)]; exact q1⟩) hA, h6.mv hW (fun k hk => sp_bl hn30 hk) (fun j q0 q1 => ?_) hA⟩
  · refine h2.mv (fun j q0 q1 => ?_) (fun j q0 q1 => sp_bn (k := 1) hn30 (by decide) ⟨q0, by rw [if_pos (by decide)]; exact q1⟩) (fun j q0 q1 => sp_bn (k := 2) hn30 (by decide) ⟨q0, by rw [if_neg (by decide), if_pos (by decide)]; exact q1⟩) (fun j q0 q1 => sp_bn (k := 3) hn30 (by decide) ⟨q0, by rw [if_neg (by decide), if_pos (by decide)]; exact q1⟩) (fun j q0 q1 => sp_bn (k := 4) hn30 (by decide) ⟨q0, by rw [if_neg (by decide), if_neg (by decide)]; exact q1⟩) hA w0.2 w14.2
    exact sp_bn (k := 0) hn30 (by decide) ⟨q0, by rw [if_pos (by decide)]; exact q1⟩
  · exact h3.mv hW (sp_bs hn30).1 (sp_bs hn30).2 (fun u u0 u1 k j k0 k1 q0 q1 => sp_bm hn30 ⟨u0, by omega⟩ ⟨k0, k1⟩ ⟨q0, q1⟩) hA
  · by_cases q : j < C 413 0
    · have e := (sp_bl (M := C) (n := n) hn30 (k := 174) (by omega)).2 3 j (by decide) (by decide) q0 q
      rw [show sp_b C n (49 + 177) j = C (239 + 177) j from e]
      exact h6.2.2.2.2.2.2 j q0 q1
    · rw [show sp_b C n (49 + 177) j = C 226 j from sp_bz hn30 (by omega)]
      exact hs j q0 q1
theorem rl_im {C A : Me} (h : rlR C A) {n : Nat} (hn : A 430 3 = (n : Int)) : rlR (sp_i C n) (cpy A 430 0 431 0 2142) := by
  have w3 := wa_3 h.hy.1
  have w1 := wa_1 h.hy.1
  obtain ⟨h1, h2, h3, h4, h5, h6, h7, h8, h9⟩ := h
  have hn30 : n ≤ 30 := by omega
  have hC : ∀ a j : Int, a < 239 → sp_i C n a j = C a j := fun a j q => sp_io hn30 (by omega)
  have hA : ∀ a : Int, a ≠ 431 → cpy A 430 0 431 0 2142 a = A a := fun a q => funext fun j => cpy_out (by omega)
  have hI : ∀ j : Int, 0 ≤ j → j < 2142 → cpy A 430 0 431 0 2142 431 j = A 430 j := fun j q0 q1 => (cpy_in ⟨rfl, by omega⟩).trans (by congr 1; omega)
  refine ⟨h1.of (wr_a h6.1) (fun a j q0 q1 => hC a j (by omega)) (fun j _ _ => cpy_out (by omega)) (fun j _ => cpy_out (by omega)), h1.i (wr_a h6.1) hn (fun j q0 q1 => h2.2.2.2.2.2.2.2.2.2.2.2 j q0 q1), ?_, ?_, ⟨fun t g0 g1 => ?_, fun j g0 g1 => ?_⟩, h6.of ?_ ?_ ?_ ?_, ?_, ?_, ?_⟩
  · unfold rlXs
    rw [hA 430 (by decide), hA 432 (by decide)]
    exact fun t g0 g1 => (h3 t g0 g1).of (fun a j q0 q1 => hC a j (by omega))
  · unfold rlD
    rw [hA 429 (by decide), hA 433 (by decide), hC 2 0 (by decide), hC 2 1 (by decide), hC 2 2 (by decide)]
    exact ⟨h4.1, h4.2.1, h4.2.2.1, fun j g0 g1 => by rw [hC 3 j (by decide)]; exact h4.2.2.2 j g0 g1⟩
  · rw [hC _ 1 (by omega), hC _ 0 (by omega)]; exact h5.1 t g0 g1
  · rw [hC 10 j (by decide)]; exact h5.2 j g0 g1
  · unfold WA; rw [hA 430 (by decide)]; exact h6.1
  · rw [hA 430 (by decide)]
  · rw [hA 430 (by decide)]
  · exact hA 432 (by decide)
  · intro j q0 q1
    rw [hI j q0 q1]; exact h6.1 j q0 q1
  · rw [hI 1 (by decide) (by decide), hA 430 (by decide)]; exact Int.le_refl _
  · rw [hI 1 (by decide) (by decide), hI 2 (by decide) (by decide)]; exact h6.2.1
theorem rl_bk {C A : Me} (h : rlR C A) {n : Nat} (hn : A 431 3 = (n : Int)) : rlR (sp_b C n) (cpy A 431 0 430 0 2142) := by
  obtain ⟨h1, h2, h3, h4, h5, h6, h7, h8, h9⟩ := h
  have w3 := wr_3 (wr_i h7)
  have w1 := wa_1 h6.1
  have hn30 : n ≤ 30 := by omega
  have hC : ∀ a j : Int, a < 49 ∨ 238 < a → sp_b C n a j = C a j := fun a j q => sp_bo hn30 (by omega)
  have hA : ∀ a : Int, a ≠ 430 → cpy A 431 0 430 0 2142 a = A a := fun a q => funext fun j => cpy_out (by omega)
  have hI : ∀ j : Int, 0 ≤ j → j < 2142 → cpy A 431 0 430 0 2142 430 j = A 431 j := fun j q0 q1 => (cpy_in ⟨rfl, by omega⟩).trans (by congr 1; omega)
  refine ⟨h2.b (wr_i h7) hn (fun j q0 q1 => h1.2.2.2.2.2.2.2.2.2.2.2 j q0 q1), h2.of (wr_i h7) (fun a j q0 q1 => hC a j (by omega)) (fun j _ _ => cpy_out (by omega)) (fun j _ => cpy_out (by omega)), ?_, ?_, ⟨fun t g0 g1 => ?_, fun j g0 g1 => ?_⟩, ⟨?_, ?_, ?_⟩, ?_, ?_, ?_⟩
  · unfold rlXs
    rw [hI 1 (by decide) (by decide), hA 432 (by decide)]
    exact fun t g0 g1 => (h3 t g0 (by omega)).of (fun a j q0 q1 => hC a j (by omega))
  · unfold rlD
    rw [hA 429 (by decide), hA 433 (by decide), hC 2 0 (by decide), hC 2 1 (by decide), hC 2 2 (by decide)]
    exact ⟨h4.1, h4.2.1, h4.2.2.1, fun j g0 g1 => by rw [hC 3 j (by decide)]; exact h4.2.2.2 j g0 g1⟩
  · rw [hC _ 1 (by omega), hC _ 0 (by omega)]; exact h5.1 t g0 g1
  · rw [hC 10 j (by decide)]; exact h5.2 j g0 g1
  · intro j q0 q1
    rw [hI j q0 q1]; exact h7 j q0 q1
  · rw [hI 1 (by decide) (by decide), hI 2 (by decide) (by decide)]; exact h9
  · have hT := h6.2.2
    unfold TXT
    rw [hI 1 (by decide) (by decide), hA 432 (by decide)]
    exact fun t g0 g1 => hT t g0 (by omega)
  · unfold WI; rw [hA 431 (by decide)]; exact h7
  · rw [hI 1 (by decide) (by decide), hA 431 (by decide)]; exact Int.le_refl _
  · rw [hA 431 (by decide)]; exact h9
