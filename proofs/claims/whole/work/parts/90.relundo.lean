theorem uca_in {M : Me} {x c k i : Int} (hc : 0 ≤ c ∧ c < i) (hk : 0 ≤ k ∧ k < 2) : ucA M x i 430 (15 + 7 * c + k) = ucv M x c k := by
  unfold ucA
  rw [if_pos (by omega)]
  congr 1 <;> omega
theorem uqa_in {M : Me} {x p i : Int} (hp : 0 ≤ p ∧ p < i) : uqA M x i 430 (99 + 3 * p) = uqv M x p := by
  unfold uqA
  rw [if_pos (by omega)]
  congr 1; omega
/-- what a step keeps, within its bounds -/
theorem wa_st {M : Me} (h : WA M) {u t : Int} (hu : 0 ≤ u ∧ u < 30) (ht : 0 ≤ t ∧ t < 64) : 0 ≤ M 430 (192 + 64 * u + t) ∧ M 430 (192 + 64 * u + t) ≤ hiS t := by
  have := h (192 + 64 * u + t) (by omega) (by omega)
  rw [lo_b (by omega) (by omega), hi_8 (by omega), show (192 + 64 * u + t - 192) % 64 = t by omega] at this
  exact this
theorem wa_uc {M : Me} (h : WA M) {u i : Int} (hu : 0 ≤ u ∧ u < 30) (hi12 : i ≤ 12) : WA (ucA M (192 + 64 * u) i) := by
  intro j h0 h1
  by_cases q : 15 ≤ j ∧ j < 15 + 7 * i ∧ (j - 15) % 7 < 2
  · obtain ⟨c, k, rfl, hc, hk⟩ : ∃ c k : Int, j = 15 + 7 * c + k ∧ (0 ≤ c ∧ c < i) ∧ (0 ≤ k ∧ k < 2) := ⟨(j - 15) / 7, (j - 15) % 7, by omega, by omega, by omega⟩
    rw [uca_in hc hk]
    have w4 := wc_4 h (c := c) (by omega)
    have ws := wa_st h hu (t := 5 + 2 * c + k) (by omega)
    rw [show 192 + 64 * u + (5 + 2 * c + k) = 192 + 64 * u + 5 + 2 * c + k by omega] at ws
    rcases (show k = 0 ∨ k = 1 by omega) with e | e <;> subst e
    · rw [(bc_0 (by omega)).1, (bc_0 (by omega)).2]
      have e9 : hiS (5 + 2 * c + 0) = 9 := by unfold hiS; rw [if_neg (by omega), if_neg (by omega), if_neg (by omega), if_neg (by omega), if_neg (by omega), if_pos (by omega), if_pos (by omega)]
      unfold ucv
      split
      · omega
      · rw [if_pos rfl]; omega
    · rw [(bc_1 (by omega)).1, (bc_1 (by omega)).2]
      have e9 : hiS (5 + 2 * c + 1) = 2 := by unfold hiS; rw [if_neg (by omega), if_neg (by omega), if_neg (by omega), if_neg (by omega), if_neg (by omega), if_pos (by omega), if_neg (by omega)]
      unfold ucv
      split
      · omega
      · rw [if_neg (by decide)]; decide
  · rw [uc_o (by omega)]; exact h j h0 h1
theorem wa_uq {M : Me} (h : WA M) {u i : Int} (hu : 0 ≤ u ∧ u < 30) (hi5 : i ≤ 5) : WA (uqA M (192 + 64 * u) i) := by
  intro j h0 h1
  by_cases q : 99 ≤ j ∧ j < 99 + 3 * i ∧ (j - 99) % 3 = 0
  · obtain ⟨p, rfl, hp⟩ : ∃ p : Int, j = 99 + 3 * p ∧ (0 ≤ p ∧ p < i) := ⟨(j - 99) / 3, by omega, by omega⟩
    rw [uqa_in hp]
    have w2 := wp_2 h (c := p) (by omega)
    have ws := wa_st h hu (t := 29 + p) (by omega)
    rw [show 192 + 64 * u + (29 + p) = 192 + 64 * u + 29 + p by omega] at ws
    have e9 : hiS (29 + p) = 9999 := by unfold hiS; rw [if_neg (by omega), if_neg (by omega), if_neg (by omega), if_neg (by omega), if_neg (by omega), if_neg (by omega), if_pos (by omega)]
    rw [lo_b (by omega) (by omega), hi_2 (by omega), if_neg (by omega)]
    unfold uqv
    split <;> omega
  · rw [uq_o (by omega)]; exact h j h0 h1
theorem hiS_e {t : Int} (h : 34 ≤ t) : hiS t = 999999 := by unfold hiS; rw [if_neg (by omega), if_neg (by omega), if_neg (by omega), if_neg (by omega), if_neg (by omega), if_neg (by omega), if_neg (by omega)]
theorem wa_un {M : Me} (h : WA M) {u nc np : Int} (hu : 0 ≤ u ∧ u < 30) (hc : nc ≤ 12) (hp : np ≤ 5) : WA (unA M (192 + 64 * u) nc np) := by
  have h1 : WA (cpy M 430 (192 + 64 * u + 2) 430 10 3) := wa_cpy h (by omega) (fun j g0 g1 => by
    have e : hi (192 + 64 * u + 2 + (j - 10)) = hiS (2 + (j - 10)) := by rw [hi_8 (by omega)]; congr 1; omega
    rw [lo_b (by omega) (by omega), lo_b (by omega) (by omega), e]
    rcases (show j = 10 ∨ j = 11 ∨ j = 12 by omega) with q | q | q <;> subst q <;> exact ⟨rfl, rfl⟩)
  refine wa_cpy (wa_uq (wa_uc h1 hu hc) hu hp) (by omega) (fun j g0 g1 => ?_)
  have e : hi (192 + 64 * u + 34 + (j - 2112)) = hiS (34 + (j - 2112)) := by rw [hi_8 (by omega)]; congr 1; omega
  rw [lo_b (by omega) (by omega), lo_b (by omega) (by omega), e, hiS_e (by omega), hi_9 (by omega)]
  exact ⟨rfl, rfl⟩
theorem una_o {M : Me} {x nc np a j : Int} (h : ¬ (a = 430 ∧ ((10 ≤ j ∧ j < 13) ∨ (15 ≤ j ∧ j < 15 + 7 * nc ∧ (j - 15) % 7 < 2) ∨ (99 ≤ j ∧ j < 99 + 3 * np ∧ (j - 99) % 3 = 0) ∨ (2112 ≤ j ∧ j < 2142)))) : unA M x nc np a j = M a j := by
  unfold unA
  rw [cpy_out (by omega), uq_o (by omega), uc_o (by omega), cpy_out (by omega)]
theorem tk2_h {M : Me} {l i j : Int} (h : l ≤ j ∧ j < i) : tk2 M l i 52 j = 0 := by
  unfold tk2
  rw [if_pos ⟨rfl, h⟩]
theorem tk2_d {M : Me} {l i j : Int} (h : l ≤ j ∧ j < i) : tk2 M l i 53 j = M 211 j := by
  unfold tk2
  rw [if_neg (by omega), if_pos ⟨rfl, h⟩]
/-- the last step forgotten -/
theorem rl_un1 {C A : Me} (h : rlR C A) (h3 : A 430 3 ≠ 0) : rlR (up C 55 0 (A 430 3 - 1)) (up A 430 3 (A 430 3 - 1)) := by
  have w3 := wa_3 h.hy.1
  refine h.stp (fun a j _ q => up_ne (by omega)) (fun j => up_ne (by omega)) (fun a j _ _ q => up_ne (by omega)) (wu_3 h.hy.1 (by omega)) ?_
  obtain ⟨a1, a2, a3⟩ := h.1.2.2.1
  rw [show (49 : Int) + 6 = 55 by decide] at a1 a2 a3
  unfold rlT
  rw [show (49 : Int) + 6 = 55 by decide, up_eq ⟨rfl, rfl⟩, up_eq ⟨rfl, rfl⟩, up_ne (show ¬ ((55 : Int) = 55 ∧ (1 : Int) = 0) by omega), up_ne (show ¬ ((430 : Int) = 430 ∧ (14 : Int) = 3) by omega), up_ne (show ¬ ((430 : Int) = 430 ∧ (0 : Int) = 3) by omega)]
  refine ⟨rfl, a2, fun u g0 g1 => ?_⟩
  obtain ⟨r1, r2, r3⟩ := a3 u g0 (by omega)
  refine ⟨r1.of (fun a j q0 q1 => up_ne (by omega)) (fun j q0 q1 => up_ne (by omega)) (wr_s1 h.hy.1 (by omega)) (wr_s0 h.hy.1 (by omega)), ?_, ?_⟩
  · rw [up_ne (by omega)]; exact r2
  · rw [up_ne (by omega)]; exact r3
theorem rl_un {C A : Me} (h : rlR C A) {n np : Nat} (hn : A 430 14 = (n : Int)) (hp : A 430 0 = (np : Int)) (h3 : A 430 3 ≠ 0) : rlR (ubM C) (unA (up A 430 3 (A 430 3 - 1)) (192 + 64 * (A 430 3 - 1)) n np) := by
  have w3 := wa_3 h.hy.1
  have w0 := wa_0 h.hy.1
  have w14 := wa_14 h.hy.1
  have h1 := rl_un1 h h3
  obtain ⟨⟨b1, b2, b3, b4, b5⟩, b6, b7, b8⟩ := h.1.2.1.o
  obtain ⟨a1, a2, a3⟩ := h.1.2.2.1
  rw [show (49 : Int) + 6 = 55 by decide] at a1 a2 a3
  obtain ⟨r1, r2, r3⟩ := a3 (A 430 3 - 1) (by omega) (by omega)
  have eq : ubQ C = 49 + 8 + 5 * ((C 55 1 + (A 430 3 - 1)) % 30) := by unfold ubQ kp_s; rw [a1]; rfl
  rw [← eq] at r1
  obtain ⟨⟨q1, q2, q3, q4, q5⟩, q6, q7, q8⟩ := r1
  have hqb := kp_sb (M := C) (i := C 55 0 - 1)
  rw [show kp_s C (C 55 0 - 1) = ubQ C from rfl] at hqb
  have um : ubM C = up (up (ub3 C) 50 2 (C 50 2)) 50 3 (C 50 3) := if_neg (by omega)
  have f1 : ∀ a j : Int, ¬ (50 ≤ a ∧ a ≤ 55) → ub1 C a j = C a j := fun a j q => (mcp_o (by omega)).trans (up_ne (by omega))
  have f2 : ∀ a j : Int, ¬ (50 ≤ a ∧ a ≤ 55) → ub2 C a j = C a j := fun a j q => (tk1_o (by omega)).trans (f1 a j q)
  have f3 : ∀ a j : Int, ¬ (50 ≤ a ∧ a ≤ 55) → ub3 C a j = C a j := fun a j q => (tk2_o (by omega)).trans (f2 a j q)
  have fM : ∀ a j : Int, ¬ (50 ≤ a ∧ a ≤ 55) → ubM C a j = C a j := fun a j q => by rw [um]; exact (up_ne (by omega)).trans ((up_ne (by omega)).trans (f3 a j q))
  have f55 : ∀ j : Int, ubM C 55 j = up C 55 0 (A 430 3 - 1) 55 j := fun j => by
    rw [um]
    refine (up_ne (by omega)).trans ((up_ne (by omega)).trans ((tk2_o (by omega)).trans ((tk1_o (by omega)).trans ((mcp_o (by omega)).trans ?_))))
    rw [a1]
  refine h1.now (fun a j p q => ?_) (fun j => by rw [fM 10 j (by omega), up_ne (by omega)]) (fun a j _ _ q => una_o (by unfold nowA at q; omega)) (wa_un h1.hy.1 (by omega) (by omega) (by omega)) ?_
  · by_cases e : a = 55
    · rw [e]; exact f55 j
    · rw [fM a j (by omega), up_ne (by omega)]
  · have g : ∀ k : Int, 0 ≤ k → k < 5 → ub3 C 50 k = C (ubQ C) k := fun k k0 k1 => (tk2_o (by omega)).trans ((tk1_o (by omega)).trans ((mcp_0 (by omega) rfl ⟨k0, k1⟩).trans (up_ne (by omega))))
    have ea : ∀ j : Int, j ≠ 3 → up A 430 3 (A 430 3 - 1) 430 j = A 430 j := fun j q => up_ne (by omega)
    refine rlN.mk ?_ ?_ ?_ ?_ ?_ (fun p g0 g1 => ?_) (fun c g0 g1 => ?_) (fun i g0 g1 => ?_)
    · rw [um, up_ne (by omega), up_ne (by omega), g 0 (by decide) (by decide), q1]
      unfold unA
      rw [cpy_out (by omega), uq_o (by omega), uc_o (by omega), cpy_in ⟨rfl, by omega⟩, ea _ (by omega)]
      congr 1; omega
    · rw [um, up_ne (by omega), up_ne (by omega), g 1 (by decide) (by decide), q2]
      unfold unA
      rw [cpy_out (by omega), uq_o (by omega), uc_o (by omega), cpy_in ⟨rfl, by omega⟩, ea _ (by omega)]
      congr 1; omega
    · rw [um, up_ne (by omega), up_eq ⟨rfl, rfl⟩, una_o (by omega), ea _ (by omega)]; exact b3
    · rw [um, up_eq ⟨rfl, rfl⟩, una_o (by omega), ea _ (by omega)]; exact b4
    · rw [um, up_ne (by omega), up_ne (by omega), g 4 (by decide) (by decide), q5]
      unfold unA
      rw [cpy_out (by omega), uq_o (by omega), uc_o (by omega), cpy_in ⟨rfl, by omega⟩, ea _ (by omega)]
      congr 1; omega
    · rw [una_o (by omega), ea _ (by omega)] at g1
      rw [um, up_ne (by omega), up_ne (by omega)]
      unfold unA
      rw [cpy_out (by omega), uqa_in ⟨g0, by omega⟩]
      unfold uqv
      rw [uc_o (by omega), cpy_out (by omega), ea _ (by omega)]
      refine (tk2_o (by omega)).trans ?_
      unfold ub2 tk1
      rw [q3]
      by_cases e : p < A 430 (192 + 64 * (A 430 3 - 1) + 1)
      · rw [if_neg (by omega), if_pos e, uc_o (by omega), cpy_out (by omega), ea _ (by omega), ← q6 p g0 e]
        exact (mcp_1 (by omega) rfl ⟨g0, by omega⟩).trans (up_ne (by omega))
      · rw [if_pos (by omega), if_neg e, uc_o (by omega), cpy_out (by omega), ea _ (by omega), f1 208 p (by omega)]
        exact (h.pe g0 g1).2.1
    · rw [una_o (by omega), ea _ (by omega)] at g1
      rw [um, up_ne (by omega), up_ne (by omega), up_ne (by omega), up_ne (by omega)]
      have k := h.cr g0 g1
      have u0 : unA (up A 430 3 (A 430 3 - 1)) (192 + 64 * (A 430 3 - 1)) n np 430 (15 + 7 * c) = ucv (cpy (up A 430 3 (A 430 3 - 1)) 430 (192 + 64 * (A 430 3 - 1) + 2) 430 10 3) (192 + 64 * (A 430 3 - 1)) c 0 := by
        unfold unA
        rw [cpy_out (by omega), uq_o (by omega), show 15 + 7 * c = 15 + 7 * c + 0 by omega, uca_in ⟨g0, by omega⟩ (by decide)]
      have u1 : unA (up A 430 3 (A 430 3 - 1)) (192 + 64 * (A 430 3 - 1)) n np 430 (15 + 7 * c + 1) = ucv (cpy (up A 430 3 (A 430 3 - 1)) 430 (192 + 64 * (A 430 3 - 1) + 2) 430 10 3) (192 + 64 * (A 430 3 - 1)) c 1 := by
        unfold unA
        rw [cpy_out (by omega), uq_o (by omega), uca_in ⟨g0, by omega⟩ (by decide)]
      rw [u0, u1]
      unfold ucv
      rw [cpy_out (by omega), ea _ (by omega)]
      by_cases e : c < A 430 (192 + 64 * (A 430 3 - 1))
      · rw [if_pos e, if_pos e, cpy_out (by omega), cpy_out (by omega), ea _ (by omega), ea _ (by omega)]
        have b := q7 c g0 e
        refine ⟨(tk2_o (by rw [q4]; omega)).trans ((tk1_o (by omega)).trans ((mcp_2 (by omega) rfl ⟨g0, by omega⟩).trans ((up_ne (by omega)).trans b.1))), (tk2_o (by rw [q4]; omega)).trans ((tk1_o (by omega)).trans ((mcp_3 (by omega) rfl ⟨g0, by omega⟩).trans ((up_ne (by omega)).trans (b.2.trans ?_))))⟩
        rw [Int.add_zero]
      · rw [if_neg e, if_neg e, if_neg (by decide), if_pos rfl, cpy_out (by omega), ea _ (by omega)]
        exact ⟨tk2_h (by rw [q4]; omega), (tk2_d (by rw [q4]; omega)).trans ((f2 211 c (by omega)).trans k.2.2.1)⟩
    · rw [um, up_ne (by omega), up_ne (by omega)]
      unfold unA
      rw [cpy_in ⟨rfl, by omega⟩, uq_o (by omega), uc_o (by omega), cpy_out (by omega), ea _ (by omega)]
      refine (tk2_o (by omega)).trans ((tk1_o (by omega)).trans ((mcp_4 (by omega) rfl ⟨g0, by omega⟩).trans ((up_ne (by omega)).trans ((q8 i g0 g1).trans ?_))))
      congr 1; omega
theorem rl_uq {C A : Me} (h : rlR C A) (h3 : A 430 3 ≠ 0) : 0 ≤ C (ubQ C) 2 ∧ 0 ≤ C (ubQ C) 3 := by
  have w3 := wa_3 h.hy.1
  obtain ⟨a1, a2, a3⟩ := h.1.2.2.1
  rw [show (49 : Int) + 6 = 55 by decide] at a1 a2 a3
  obtain ⟨r1, r2, r3⟩ := a3 (A 430 3 - 1) (by omega) (by omega)
  have eq : ubQ C = 49 + 8 + 5 * ((C 55 1 + (A 430 3 - 1)) % 30) := by unfold ubQ kp_s; rw [a1]; rfl
  rw [← eq] at r1
  have s0 := wa_st h.hy.1 (u := A 430 3 - 1) (t := 0) (by omega) (by decide)
  have s1 := wa_st h.hy.1 (u := A 430 3 - 1) (t := 1) (by omega) (by decide)
  rw [Int.add_zero] at s0
  rw [r1.1.2.2.1, r1.1.2.2.2.1]
  exact ⟨s1.1, s0.1⟩
