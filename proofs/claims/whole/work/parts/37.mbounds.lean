/-- what a step keeps, at its most -/
def hiS (t : Int) : Int := if t = 0 then 12 else if t = 1 then 5 else if t = 2 then 9999 else if t = 3 then 39999 else if t = 4 then 30 else if t < 29 then (if (t - 5) % 2 = 0 then 9 else 2) else if t < 34 then 9999 else 999999
def hiC (k : Int) : Int := if k = 0 then 9 else if k = 1 then 2 else if k = 2 then 4 else if k = 3 then 99 else if k = 4 then 9 else if k = 5 then 9 else 4095
def hiH (j : Int) : Int := if j = 0 then 5 else if j = 1 then 4 else if j = 2 then 3 else if j = 3 then 30 else if 4 ≤ j ∧ j < 7 then 8 else if j = 7 then 6 else if 8 ≤ j ∧ j < 10 then 8 else if j = 10 then 9999 else if j = 11 then 39999 else if j = 12 then 30 else if j = 13 then 9 else if j = 14 then 12 else 0
/-- the bounds of the reference's row -/
def lo (j : Int) : Int := if j = 2 then -1 else if 15 ≤ j ∧ j < 99 ∧ (j - 15) % 7 = 5 then -9 else 0
def hi (j : Int) : Int := if j < 15 then hiH j else if j < 99 then hiC ((j - 15) % 7) else if j < 114 then (if (j - 99) % 3 = 1 then 2 else 9999) else if j < 130 then (if (j - 114) % 2 = 0 then 11 else 1) else if j < 138 then 99 else if j < 162 then (if (j - 138) % 3 = 2 then 999 else 99) else if j < 176 then 999 else if j < 192 then (if (j - 176) % 2 = 0 then 11 else 9999) else if j < 2112 then hiS ((j - 192) % 64) else 999999
def WA (M : Me) : Prop := ∀ j : Int, 0 ≤ j → j < 2142 → lo j ≤ M 430 j ∧ M 430 j ≤ hi j
theorem wa_up {M : Me} (h : WA M) {j v : Int} (hv : lo j ≤ v ∧ v ≤ hi j) : WA (up M 430 j v) := by
  intro i h0 h1
  unfold up
  by_cases e : i = j
  · rw [if_pos ⟨rfl, e⟩, e]; exact hv
  · rw [if_neg (fun q => e q.2)]; exact h i h0 h1
theorem wa_o {M N : Me} (h : WA M) (e : ∀ j, 0 ≤ j → j < 2142 → N 430 j = M 430 j) : WA N := by
  intro i h0 h1
  rw [e i h0 h1]; exact h i h0 h1
theorem wa_cpy {M : Me} (h : WA M) {sp dp n : Int} (h0 : 0 ≤ sp ∧ sp + n ≤ 2142) (e : ∀ j, dp ≤ j → j < dp + n → lo (sp + (j - dp)) = lo j ∧ hi (sp + (j - dp)) = hi j) : WA (cpy M 430 sp 430 dp n) := by
  intro i h1 h2
  by_cases q : dp ≤ i ∧ i < dp + n
  · rw [cpy_in ⟨rfl, q⟩]
    have := h (sp + (i - dp)) (by omega) (by omega)
    rw [(e i q.1 q.2).1, (e i q.1 q.2).2] at this
    exact this
  · rw [cpy_out (fun w => q w.2)]; exact h i h1 h2
theorem lo_b {j : Int} (h : j ≠ 2) (h2 : ¬ (15 ≤ j ∧ j < 99 ∧ (j - 15) % 7 = 5)) : lo j = 0 := by unfold lo; rw [if_neg h, if_neg h2]
theorem hi_0 {j : Int} (h : j < 15) : hi j = hiH j := if_pos h
theorem hi_1 {j : Int} (h : 15 ≤ j ∧ j < 99) : hi j = hiC ((j - 15) % 7) := by unfold hi; rw [if_neg (by omega), if_pos (by omega)]
theorem hi_2 {j : Int} (h : 99 ≤ j ∧ j < 114) : hi j = (if (j - 99) % 3 = 1 then 2 else 9999) := by unfold hi; rw [if_neg (by omega), if_neg (by omega), if_pos (by omega)]
theorem hi_3 {j : Int} (h : 114 ≤ j ∧ j < 130) : hi j = (if (j - 114) % 2 = 0 then 11 else 1) := by unfold hi; rw [if_neg (by omega), if_neg (by omega), if_neg (by omega), if_pos (by omega)]
theorem hi_4 {j : Int} (h : 130 ≤ j ∧ j < 138) : hi j = 99 := by unfold hi; rw [if_neg (by omega), if_neg (by omega), if_neg (by omega), if_neg (by omega), if_pos (by omega)]
theorem hi_5 {j : Int} (h : 138 ≤ j ∧ j < 162) : hi j = (if (j - 138) % 3 = 2 then 999 else 99) := by unfold hi; rw [if_neg (by omega), if_neg (by omega), if_neg (by omega), if_neg (by omega), if_neg (by omega), if_pos (by omega)]
theorem hi_6 {j : Int} (h : 162 ≤ j ∧ j < 176) : hi j = 999 := by unfold hi; rw [if_neg (by omega), if_neg (by omega), if_neg (by omega), if_neg (by omega), if_neg (by omega), if_neg (by omega), if_pos (by omega)]
theorem hi_7 {j : Int} (h : 176 ≤ j ∧ j < 192) : hi j = (if (j - 176) % 2 = 0 then 11 else 9999) := by unfold hi; rw [if_neg (by omega), if_neg (by omega), if_neg (by omega), if_neg (by omega), if_neg (by omega), if_neg (by omega), if_neg (by omega), if_pos (by omega)]
theorem hi_8 {j : Int} (h : 192 ≤ j ∧ j < 2112) : hi j = hiS ((j - 192) % 64) := by unfold hi; rw [if_neg (by omega), if_neg (by omega), if_neg (by omega), if_neg (by omega), if_neg (by omega), if_neg (by omega), if_neg (by omega), if_neg (by omega), if_pos (by omega)]
theorem hi_9 {j : Int} (h : 2112 ≤ j) : hi j = 999999 := by unfold hi; rw [if_neg (by omega), if_neg (by omega), if_neg (by omega), if_neg (by omega), if_neg (by omega), if_neg (by omega), if_neg (by omega), if_neg (by omega), if_neg (by omega)]
theorem wa_0 {M : Me} (h : WA M) : 0 ≤ M 430 0 ∧ M 430 0 ≤ 5 := h 0 (by decide) (by decide)
theorem wu_0 {M : Me} (h : WA M) {v : Int} (hv : 0 ≤ v ∧ v ≤ 5) : WA (up M 430 0 v) := wa_up h hv
theorem wa_1 {M : Me} (h : WA M) : 0 ≤ M 430 1 ∧ M 430 1 ≤ 4 := h 1 (by decide) (by decide)
theorem wu_1 {M : Me} (h : WA M) {v : Int} (hv : 0 ≤ v ∧ v ≤ 4) : WA (up M 430 1 v) := wa_up h hv
theorem wa_2 {M : Me} (h : WA M) : -1 ≤ M 430 2 ∧ M 430 2 ≤ 3 := h 2 (by decide) (by decide)
theorem wu_2 {M : Me} (h : WA M) {v : Int} (hv : -1 ≤ v ∧ v ≤ 3) : WA (up M 430 2 v) := wa_up h hv
theorem wa_3 {M : Me} (h : WA M) : 0 ≤ M 430 3 ∧ M 430 3 ≤ 30 := h 3 (by decide) (by decide)
theorem wu_3 {M : Me} (h : WA M) {v : Int} (hv : 0 ≤ v ∧ v ≤ 30) : WA (up M 430 3 v) := wa_up h hv
theorem wa_4 {M : Me} (h : WA M) : 0 ≤ M 430 4 ∧ M 430 4 ≤ 8 := h 4 (by decide) (by decide)
theorem wu_4 {M : Me} (h : WA M) {v : Int} (hv : 0 ≤ v ∧ v ≤ 8) : WA (up M 430 4 v) := wa_up h hv
theorem wa_5 {M : Me} (h : WA M) : 0 ≤ M 430 5 ∧ M 430 5 ≤ 8 := h 5 (by decide) (by decide)
theorem wu_5 {M : Me} (h : WA M) {v : Int} (hv : 0 ≤ v ∧ v ≤ 8) : WA (up M 430 5 v) := wa_up h hv
theorem wa_6 {M : Me} (h : WA M) : 0 ≤ M 430 6 ∧ M 430 6 ≤ 8 := h 6 (by decide) (by decide)
theorem wu_6 {M : Me} (h : WA M) {v : Int} (hv : 0 ≤ v ∧ v ≤ 8) : WA (up M 430 6 v) := wa_up h hv
theorem wa_7 {M : Me} (h : WA M) : 0 ≤ M 430 7 ∧ M 430 7 ≤ 6 := h 7 (by decide) (by decide)
theorem wu_7 {M : Me} (h : WA M) {v : Int} (hv : 0 ≤ v ∧ v ≤ 6) : WA (up M 430 7 v) := wa_up h hv
theorem wa_8 {M : Me} (h : WA M) : 0 ≤ M 430 8 ∧ M 430 8 ≤ 8 := h 8 (by decide) (by decide)
theorem wu_8 {M : Me} (h : WA M) {v : Int} (hv : 0 ≤ v ∧ v ≤ 8) : WA (up M 430 8 v) := wa_up h hv
theorem wa_9 {M : Me} (h : WA M) : 0 ≤ M 430 9 ∧ M 430 9 ≤ 8 := h 9 (by decide) (by decide)
theorem wu_9 {M : Me} (h : WA M) {v : Int} (hv : 0 ≤ v ∧ v ≤ 8) : WA (up M 430 9 v) := wa_up h hv
theorem wa_10 {M : Me} (h : WA M) : 0 ≤ M 430 10 ∧ M 430 10 ≤ 9999 := h 10 (by decide) (by decide)
theorem wu_10 {M : Me} (h : WA M) {v : Int} (hv : 0 ≤ v ∧ v ≤ 9999) : WA (up M 430 10 v) := wa_up h hv
theorem wa_11 {M : Me} (h : WA M) : 0 ≤ M 430 11 ∧ M 430 11 ≤ 39999 := h 11 (by decide) (by decide)
theorem wu_11 {M : Me} (h : WA M) {v : Int} (hv : 0 ≤ v ∧ v ≤ 39999) : WA (up M 430 11 v) := wa_up h hv
theorem wa_12 {M : Me} (h : WA M) : 0 ≤ M 430 12 ∧ M 430 12 ≤ 30 := h 12 (by decide) (by decide)
theorem wu_12 {M : Me} (h : WA M) {v : Int} (hv : 0 ≤ v ∧ v ≤ 30) : WA (up M 430 12 v) := wa_up h hv
theorem wa_13 {M : Me} (h : WA M) : 0 ≤ M 430 13 ∧ M 430 13 ≤ 9 := h 13 (by decide) (by decide)
theorem wu_13 {M : Me} (h : WA M) {v : Int} (hv : 0 ≤ v ∧ v ≤ 9) : WA (up M 430 13 v) := wa_up h hv
theorem wa_14 {M : Me} (h : WA M) : 0 ≤ M 430 14 ∧ M 430 14 ≤ 12 := h 14 (by decide) (by decide)
theorem wu_14 {M : Me} (h : WA M) {v : Int} (hv : 0 ≤ v ∧ v ≤ 12) : WA (up M 430 14 v) := wa_up h hv
theorem bc_0 {c : Int} (hc : 0 ≤ c ∧ c < 12) : lo (15 + 7 * c + 0) = 0 ∧ hi (15 + 7 * c + 0) = 9 := by
  refine ⟨?_, ?_⟩
  · unfold lo; rw [if_neg (by omega), if_neg (by omega)]
  · rw [hi_1 (by omega), show (15 + 7 * c + 0 - 15) % 7 = 0 by omega]; rfl
theorem wc_0 {M : Me} (h : WA M) {c : Int} (hc : 0 ≤ c ∧ c < 12) : 0 ≤ M 430 (15 + 7 * c + 0) ∧ M 430 (15 + 7 * c + 0) ≤ 9 := by have := h (15 + 7 * c + 0) (by omega) (by omega); rwa [(bc_0 hc).1, (bc_0 hc).2] at this
theorem wcu_0 {M : Me} (h : WA M) {c v : Int} (hc : 0 ≤ c ∧ c < 12) (hv : 0 ≤ v ∧ v ≤ 9) : WA (up M 430 (15 + 7 * c + 0) v) := wa_up h (by rwa [(bc_0 hc).1, (bc_0 hc).2])
theorem bc_1 {c : Int} (hc : 0 ≤ c ∧ c < 12) : lo (15 + 7 * c + 1) = 0 ∧ hi (15 + 7 * c + 1) = 2 := by
  refine ⟨?_, ?_⟩
  · unfold lo; rw [if_neg (by omega), if_neg (by omega)]
  · rw [hi_1 (by omega), show (15 + 7 * c + 1 - 15) % 7 = 1 by omega]; rfl
theorem wc_1 {M : Me} (h : WA M) {c : Int} (hc : 0 ≤ c ∧ c < 12) : 0 ≤ M 430 (15 + 7 * c + 1) ∧ M 430 (15 + 7 * c + 1) ≤ 2 := by have := h (15 + 7 * c + 1) (by omega) (by omega); rwa [(bc_1 hc).1, (bc_1 hc).2] at this
theorem wcu_1 {M : Me} (h : WA M) {c v : Int} (hc : 0 ≤ c ∧ c < 12) (hv : 0 ≤ v ∧ v ≤ 2) : WA (up M 430 (15 + 7 * c + 1) v) := wa_up h (by rwa [(bc_1 hc).1, (bc_1 hc).2])
theorem bc_2 {c : Int} (hc : 0 ≤ c ∧ c < 12) : lo (15 + 7 * c + 2) = 0 ∧ hi (15 + 7 * c + 2) = 4 := by
  refine ⟨?_, ?_⟩
  · unfold lo; rw [if_neg (by omega), if_neg (by omega)]
  · rw [hi_1 (by omega), show (15 + 7 * c + 2 - 15) % 7 = 2 by omega]; rfl
theorem wc_2 {M : Me} (h : WA M) {c : Int} (hc : 0 ≤ c ∧ c < 12) : 0 ≤ M 430 (15 + 7 * c + 2) ∧ M 430 (15 + 7 * c + 2) ≤ 4 := by have := h (15 + 7 * c + 2) (by omega) (by omega); rwa [(bc_2 hc).1, (bc_2 hc).2] at this
theorem wcu_2 {M : Me} (h : WA M) {c v : Int} (hc : 0 ≤ c ∧ c < 12) (hv : 0 ≤ v ∧ v ≤ 4) : WA (up M 430 (15 + 7 * c + 2) v) := wa_up h (by rwa [(bc_2 hc).1, (bc_2 hc).2])
theorem bc_3 {c : Int} (hc : 0 ≤ c ∧ c < 12) : lo (15 + 7 * c + 3) = 0 ∧ hi (15 + 7 * c + 3) = 99 := by
  refine ⟨?_, ?_⟩
  · unfold lo; rw [if_neg (by omega), if_neg (by omega)]
  · rw [hi_1 (by omega), show (15 + 7 * c + 3 - 15) % 7 = 3 by omega]; rfl
theorem wc_3 {M : Me} (h : WA M) {c : Int} (hc : 0 ≤ c ∧ c < 12) : 0 ≤ M 430 (15 + 7 * c + 3) ∧ M 430 (15 + 7 * c + 3) ≤ 99 := by have := h (15 + 7 * c + 3) (by omega) (by omega); rwa [(bc_3 hc).1, (bc_3 hc).2] at this
theorem wcu_3 {M : Me} (h : WA M) {c v : Int} (hc : 0 ≤ c ∧ c < 12) (hv : 0 ≤ v ∧ v ≤ 99) : WA (up M 430 (15 + 7 * c + 3) v) := wa_up h (by rwa [(bc_3 hc).1, (bc_3 hc).2])
theorem bc_4 {c : Int} (hc : 0 ≤ c ∧ c < 12) : lo (15 + 7 * c + 4) = 0 ∧ hi (15 + 7 * c + 4) = 9 := by
  refine ⟨?_, ?_⟩
  · unfold lo; rw [if_neg (by omega), if_neg (by omega)]
  · rw [hi_1 (by omega), show (15 + 7 * c + 4 - 15) % 7 = 4 by omega]; rfl
theorem wc_4 {M : Me} (h : WA M) {c : Int} (hc : 0 ≤ c ∧ c < 12) : 0 ≤ M 430 (15 + 7 * c + 4) ∧ M 430 (15 + 7 * c + 4) ≤ 9 := by have := h (15 + 7 * c + 4) (by omega) (by omega); rwa [(bc_4 hc).1, (bc_4 hc).2] at this
theorem wcu_4 {M : Me} (h : WA M) {c v : Int} (hc : 0 ≤ c ∧ c < 12) (hv : 0 ≤ v ∧ v ≤ 9) : WA (up M 430 (15 + 7 * c + 4) v) := wa_up h (by rwa [(bc_4 hc).1, (bc_4 hc).2])
theorem bc_5 {c : Int} (hc : 0 ≤ c ∧ c < 12) : lo (15 + 7 * c + 5) = -9 ∧ hi (15 + 7 * c + 5) = 9 := by
  refine ⟨?_, ?_⟩
  · unfold lo; rw [if_neg (by omega), if_pos (by omega)]
  · rw [hi_1 (by omega), show (15 + 7 * c + 5 - 15) % 7 = 5 by omega]; rfl
theorem wc_5 {M : Me} (h : WA M) {c : Int} (hc : 0 ≤ c ∧ c < 12) : -9 ≤ M 430 (15 + 7 * c + 5) ∧ M 430 (15 + 7 * c + 5) ≤ 9 := by have := h (15 + 7 * c + 5) (by omega) (by omega); rwa [(bc_5 hc).1, (bc_5 hc).2] at this
theorem wcu_5 {M : Me} (h : WA M) {c v : Int} (hc : 0 ≤ c ∧ c < 12) (hv : -9 ≤ v ∧ v ≤ 9) : WA (up M 430 (15 + 7 * c + 5) v) := wa_up h (by rwa [(bc_5 hc).1, (bc_5 hc).2])
theorem bc_6 {c : Int} (hc : 0 ≤ c ∧ c < 12) : lo (15 + 7 * c + 6) = 0 ∧ hi (15 + 7 * c + 6) = 4095 := by
  refine ⟨?_, ?_⟩
  · unfold lo; rw [if_neg (by omega), if_neg (by omega)]
  · rw [hi_1 (by omega), show (15 + 7 * c + 6 - 15) % 7 = 6 by omega]; rfl
theorem wc_6 {M : Me} (h : WA M) {c : Int} (hc : 0 ≤ c ∧ c < 12) : 0 ≤ M 430 (15 + 7 * c + 6) ∧ M 430 (15 + 7 * c + 6) ≤ 4095 := by have := h (15 + 7 * c + 6) (by omega) (by omega); rwa [(bc_6 hc).1, (bc_6 hc).2] at this
theorem wcu_6 {M : Me} (h : WA M) {c v : Int} (hc : 0 ≤ c ∧ c < 12) (hv : 0 ≤ v ∧ v ≤ 4095) : WA (up M 430 (15 + 7 * c + 6) v) := wa_up h (by rwa [(bc_6 hc).1, (bc_6 hc).2])
theorem wp_0 {M : Me} (h : WA M) {c : Int} (hc : 0 ≤ c ∧ c < 5) : 0 ≤ M 430 (99 + 3 * c + 0) ∧ M 430 (99 + 3 * c + 0) ≤ 9999 := by have := h (99 + 3 * c + 0) (by omega) (by omega); rwa [lo_b (by omega) (by omega), hi_2 (by omega), if_neg (by omega)] at this
theorem xp_0 {M : Me} (h : WA M) {c v : Int} (hc : 0 ≤ c ∧ c < 5) (hv : 0 ≤ v ∧ v ≤ 9999) : WA (up M 430 (99 + 3 * c + 0) v) := wa_up h (by rwa [lo_b (by omega) (by omega), hi_2 (by omega), if_neg (by omega)])
theorem wp_1 {M : Me} (h : WA M) {c : Int} (hc : 0 ≤ c ∧ c < 5) : 0 ≤ M 430 (99 + 3 * c + 1) ∧ M 430 (99 + 3 * c + 1) ≤ 2 := by have := h (99 + 3 * c + 1) (by omega) (by omega); rwa [lo_b (by omega) (by omega), hi_2 (by omega), if_pos (by omega)] at this
theorem xp_1 {M : Me} (h : WA M) {c v : Int} (hc : 0 ≤ c ∧ c < 5) (hv : 0 ≤ v ∧ v ≤ 2) : WA (up M 430 (99 + 3 * c + 1) v) := wa_up h (by rwa [lo_b (by omega) (by omega), hi_2 (by omega), if_pos (by omega)])
theorem wp_2 {M : Me} (h : WA M) {c : Int} (hc : 0 ≤ c ∧ c < 5) : 0 ≤ M 430 (99 + 3 * c + 2) ∧ M 430 (99 + 3 * c + 2) ≤ 9999 := by have := h (99 + 3 * c + 2) (by omega) (by omega); rwa [lo_b (by omega) (by omega), hi_2 (by omega), if_neg (by omega)] at this
theorem xp_2 {M : Me} (h : WA M) {c v : Int} (hc : 0 ≤ c ∧ c < 5) (hv : 0 ≤ v ∧ v ≤ 9999) : WA (up M 430 (99 + 3 * c + 2) v) := wa_up h (by rwa [lo_b (by omega) (by omega), hi_2 (by omega), if_neg (by omega)])
theorem ww_0 {M : Me} (h : WA M) {c : Int} (hc : 0 ≤ c ∧ c < 8) : 0 ≤ M 430 (114 + 2 * c + 0) ∧ M 430 (114 + 2 * c + 0) ≤ 11 := by have := h (114 + 2 * c + 0) (by omega) (by omega); rwa [lo_b (by omega) (by omega), hi_3 (by omega), if_pos (by omega)] at this
theorem xw_0 {M : Me} (h : WA M) {c v : Int} (hc : 0 ≤ c ∧ c < 8) (hv : 0 ≤ v ∧ v ≤ 11) : WA (up M 430 (114 + 2 * c + 0) v) := wa_up h (by rwa [lo_b (by omega) (by omega), hi_3 (by omega), if_pos (by omega)])
theorem ww_1 {M : Me} (h : WA M) {c : Int} (hc : 0 ≤ c ∧ c < 8) : 0 ≤ M 430 (114 + 2 * c + 1) ∧ M 430 (114 + 2 * c + 1) ≤ 1 := by have := h (114 + 2 * c + 1) (by omega) (by omega); rwa [lo_b (by omega) (by omega), hi_3 (by omega), if_neg (by omega)] at this
theorem xw_1 {M : Me} (h : WA M) {c v : Int} (hc : 0 ≤ c ∧ c < 8) (hv : 0 ≤ v ∧ v ≤ 1) : WA (up M 430 (114 + 2 * c + 1) v) := wa_up h (by rwa [lo_b (by omega) (by omega), hi_3 (by omega), if_neg (by omega)])
theorem wb_0 {M : Me} (h : WA M) {c : Int} (hc : 0 ≤ c ∧ c < 8) : 0 ≤ M 430 (130 + c) ∧ M 430 (130 + c) ≤ 99 := by have := h (130 + c) (by omega) (by omega); rwa [lo_b (by omega) (by omega), hi_4 (by omega)] at this
theorem xb_0 {M : Me} (h : WA M) {c v : Int} (hc : 0 ≤ c ∧ c < 8) (hv : 0 ≤ v ∧ v ≤ 99) : WA (up M 430 (130 + c) v) := wa_up h (by rwa [lo_b (by omega) (by omega), hi_4 (by omega)])
theorem ws_0 {M : Me} (h : WA M) {c : Int} (hc : 0 ≤ c ∧ c < 8) : 0 ≤ M 430 (138 + 3 * c + 0) ∧ M 430 (138 + 3 * c + 0) ≤ 99 := by have := h (138 + 3 * c + 0) (by omega) (by omega); rwa [lo_b (by omega) (by omega), hi_5 (by omega), if_neg (by omega)] at this
theorem xs_0 {M : Me} (h : WA M) {c v : Int} (hc : 0 ≤ c ∧ c < 8) (hv : 0 ≤ v ∧ v ≤ 99) : WA (up M 430 (138 + 3 * c + 0) v) := wa_up h (by rwa [lo_b (by omega) (by omega), hi_5 (by omega), if_neg (by omega)])
theorem ws_1 {M : Me} (h : WA M) {c : Int} (hc : 0 ≤ c ∧ c < 8) : 0 ≤ M 430 (138 + 3 * c + 1) ∧ M 430 (138 + 3 * c + 1) ≤ 99 := by have := h (138 + 3 * c + 1) (by omega) (by omega); rwa [lo_b (by omega) (by omega), hi_5 (by omega), if_neg (by omega)] at this
theorem xs_1 {M : Me} (h : WA M) {c v : Int} (hc : 0 ≤ c ∧ c < 8) (hv : 0 ≤ v ∧ v ≤ 99) : WA (up M 430 (138 + 3 * c + 1) v) := wa_up h (by rwa [lo_b (by omega) (by omega), hi_5 (by omega), if_neg (by omega)])
theorem ws_2 {M : Me} (h : WA M) {c : Int} (hc : 0 ≤ c ∧ c < 8) : 0 ≤ M 430 (138 + 3 * c + 2) ∧ M 430 (138 + 3 * c + 2) ≤ 999 := by have := h (138 + 3 * c + 2) (by omega) (by omega); rwa [lo_b (by omega) (by omega), hi_5 (by omega), if_pos (by omega)] at this
theorem xs_2 {M : Me} (h : WA M) {c v : Int} (hc : 0 ≤ c ∧ c < 8) (hv : 0 ≤ v ∧ v ≤ 999) : WA (up M 430 (138 + 3 * c + 2) v) := wa_up h (by rwa [lo_b (by omega) (by omega), hi_5 (by omega), if_pos (by omega)])
theorem wh_0 {M : Me} (h : WA M) {c : Int} (hc : 0 ≤ c ∧ c < 6) : 0 ≤ M 430 (162 + c) ∧ M 430 (162 + c) ≤ 999 := by have := h (162 + c) (by omega) (by omega); rwa [lo_b (by omega) (by omega), hi_6 (by omega)] at this
theorem xh_0 {M : Me} (h : WA M) {c v : Int} (hc : 0 ≤ c ∧ c < 6) (hv : 0 ≤ v ∧ v ≤ 999) : WA (up M 430 (162 + c) v) := wa_up h (by rwa [lo_b (by omega) (by omega), hi_6 (by omega)])
theorem wo_0 {M : Me} (h : WA M) {c : Int} (hc : 0 ≤ c ∧ c < 8) : 0 ≤ M 430 (168 + c) ∧ M 430 (168 + c) ≤ 999 := by have := h (168 + c) (by omega) (by omega); rwa [lo_b (by omega) (by omega), hi_6 (by omega)] at this
theorem xo_0 {M : Me} (h : WA M) {c v : Int} (hc : 0 ≤ c ∧ c < 8) (hv : 0 ≤ v ∧ v ≤ 999) : WA (up M 430 (168 + c) v) := wa_up h (by rwa [lo_b (by omega) (by omega), hi_6 (by omega)])
theorem wd_0 {M : Me} (h : WA M) {c : Int} (hc : 0 ≤ c ∧ c < 8) : 0 ≤ M 430 (176 + 2 * c + 0) ∧ M 430 (176 + 2 * c + 0) ≤ 11 := by have := h (176 + 2 * c + 0) (by omega) (by omega); rwa [lo_b (by omega) (by omega), hi_7 (by omega), if_pos (by omega)] at this
theorem xd_0 {M : Me} (h : WA M) {c v : Int} (hc : 0 ≤ c ∧ c < 8) (hv : 0 ≤ v ∧ v ≤ 11) : WA (up M 430 (176 + 2 * c + 0) v) := wa_up h (by rwa [lo_b (by omega) (by omega), hi_7 (by omega), if_pos (by omega)])
theorem wd_1 {M : Me} (h : WA M) {c : Int} (hc : 0 ≤ c ∧ c < 8) : 0 ≤ M 430 (176 + 2 * c + 1) ∧ M 430 (176 + 2 * c + 1) ≤ 9999 := by have := h (176 + 2 * c + 1) (by omega) (by omega); rwa [lo_b (by omega) (by omega), hi_7 (by omega), if_neg (by omega)] at this
theorem xd_1 {M : Me} (h : WA M) {c v : Int} (hc : 0 ≤ c ∧ c < 8) (hv : 0 ≤ v ∧ v ≤ 9999) : WA (up M 430 (176 + 2 * c + 1) v) := wa_up h (by rwa [lo_b (by omega) (by omega), hi_7 (by omega), if_neg (by omega)])
theorem wk_0 {M : Me} (h : WA M) {c : Int} (hc : 0 ≤ c ∧ c < 30) : 0 ≤ M 430 (2112 + c) ∧ M 430 (2112 + c) ≤ 999999 := by have := h (2112 + c) (by omega) (by omega); rwa [lo_b (by omega) (by omega), hi_9 (by omega)] at this
theorem xk_0 {M : Me} (h : WA M) {c v : Int} (hc : 0 ≤ c ∧ c < 30) (hv : 0 ≤ v ∧ v ≤ 999999) : WA (up M 430 (2112 + c) v) := wa_up h (by rwa [lo_b (by omega) (by omega), hi_9 (by omega)])
theorem wa_wr {M : Me} (h : WA M) {c w : Int} (hc : 0 ≤ c ∧ c < 12) (hw : 0 ≤ w ∧ w < 4) : WA (wrA M c w) := by
  have h10 := wa_10 h
  have h12 := wa_12 h
  have hb : 0 ≤ bkv M c w ∧ bkv M c w ≤ 999999 := by unfold bkv; omega
  unfold wrA
  split
  · exact wu_12 (wa_up (wu_12 (wa_cpy h (by decide) (fun j h1 h2 => ⟨by rw [lo_b (by omega) (by omega), lo_b (by omega) (by omega)], by rw [hi_9 (by omega), hi_9 (by omega)]⟩)) (by decide)) (by rw [lo_b (by decide) (by decide), hi_9 (by decide)]; exact hb)) (by decide)
  · exact wu_12 (xk_0 h (by omega) hb) (by omega)
theorem wa_bc {M : Me} (h : WA M) {c t d : Int} (hc : 0 ≤ c ∧ c < 12) (ht : 0 ≤ t ∧ t ≤ 2) (hd : 0 ≤ d ∧ d ≤ 9) : WA (bcA M c t d) := by
  unfold bcA
  refine wa_wr (wcu_0 (wcu_1 h hc ht) hc hd) hc ?_
  split <;> omega
theorem wa_dp {M : Me} (h : WA M) {n : Int} (hn : n ≤ 12) : WA (dpA M n) := by
  intro i h0 h1
  unfold dpA
  split
  · rename_i q
    obtain ⟨c, hc⟩ : ∃ c : Int, i = 15 + 7 * c + 0 := ⟨(i - 15) / 7, by omega⟩
    subst hc
    have hc2 : 0 ≤ c ∧ c < 12 := by omega
    have h2 := wc_0 h hc2
    have h3 := wc_4 h hc2
    rw [(bc_0 hc2).1, (bc_0 hc2).2]
    have h4 : M 430 (15 + 7 * c + 0) < M 430 (15 + 7 * c + 4) := by
      have := q.2.2
      rwa [show 15 + 7 * c + 0 + 4 = 15 + 7 * c + 4 by omega] at this
    omega
  · exact h i h0 h1
theorem wa_ps {M : Me} (h : WA M) {n : Int} (hn : n ≤ 12) (h9 : M 430 10 < 9999) : WA (psA M n) := by
  have h10 := wa_10 h
  unfold psA
  refine wu_10 ?_ (by omega)
  split
  · exact wa_dp h hn
  · exact h
theorem wa_row {M : Me} (h : WA M) {t : Int} (ht : 0 ≤ t ∧ t < 64) : 0 ≤ rowv M t ∧ rowv M t ≤ hiS t := by
  unfold rowv hiS
  by_cases e0 : t = 0
  · rw [if_pos e0, if_pos e0]; exact wa_14 h
  · rw [if_neg e0, if_neg e0]
    by_cases e1 : t = 1
    · rw [if_pos e1, if_pos e1]; exact wa_0 h
    · rw [if_neg e1, if_neg e1]
      by_cases e2 : t < 5
      · rw [if_pos e2]
        rcases (show t = 2 ∨ t = 3 ∨ t = 4 by omega) with r | r | r
        · subst r; exact wa_10 h
        · subst r; exact wa_11 h
        · subst r; exact wa_12 h
      · rw [if_neg e2, if_neg (show ¬ t = 2 by omega), if_neg (show ¬ t = 3 by omega), if_neg (show ¬ t = 4 by omega)]
        by_cases e3 : t < 29
        · rw [if_pos e3, if_pos e3]
          by_cases e4 : (t - 5) % 2 = 0
          · rw [e4, if_pos rfl]; exact wc_0 h (by omega)
          · rw [show (t - 5) % 2 = 1 by omega, if_neg (by decide)]; exact wc_1 h (by omega)
        · rw [if_neg e3, if_neg e3]
          by_cases e4 : t < 34
          · rw [if_pos e4, if_pos e4]; exact wp_0 h (by omega)
          · rw [if_neg e4, if_neg e4]; exact wk_0 h (by omega)
theorem wa_pk {M N : Me} (h : WA M) (hN : WA N) {u : Int} (hu : 0 ≤ u ∧ u < 30) {x : Int} (hx : x = 192 + 64 * u) (e : ∀ j, rowv N j = rowv M j) : WA (pk N x 64) := by
  intro i h0 h1
  by_cases q : x ≤ i ∧ i < x + 64
  · rw [pk_i q, e, lo_b (by omega) (by omega), hi_8 (by omega), show (i - 192) % 64 = i - x by omega]
    exact wa_row h (by omega)
  · rw [pk_o (fun w => q w.2)]; exact hN i h0 h1
theorem wa_kp {M : Me} (h : WA M) : WA (kpA M) := by
  have h3 := wa_3 h
  unfold kpA
  split
  · have h4 : WA (up (cpy M 430 256 430 192 1856) 430 3 29) := wu_3 (wa_cpy h (by decide) (fun j h1 h2 => ⟨by rw [lo_b (by omega) (by omega), lo_b (by omega) (by omega)], by rw [hi_8 (by omega), hi_8 (by omega), show (256 + (j - 192) - 192) % 64 = (j - 192) % 64 by omega]⟩)) (by decide)
    exact wu_3 (wa_pk (u := 29) h4 h4 (by decide) (by decide) (fun _ => rfl)) (by decide)
  · exact wu_3 (wa_pk (u := M 430 3) h h (by omega) rfl (fun _ => rfl)) (by omega)
