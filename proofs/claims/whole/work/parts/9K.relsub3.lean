theorem nxN_u {t s y : Nat} (ht : t < 4294967296) (hs : s &&& t = s) (hl : s < t) (hy : y &&& t = y) (h1 : s < y) (h2 : ∀ x : Nat, x &&& t = x → s < x → y ≤ x) : nxN 32 t s = y := by
  obtain ⟨⟨a, b⟩, c⟩ := nxN_p 32 t s ht hs hl
  exact Nat.le_antisymm (c y hy h1) (h2 _ b a)
theorem nxN_t {t : Nat} (ht : t < 4294967296) : nxN 32 t t = 0 := by
  unfold nxN
  rw [show t + (2 ^ 32 - t) = 2 ^ 32 by omega, Nat.mod_self, Nat.zero_and]
theorem sub_le {x t : Nat} (h : x &&& t = x) : x ≤ t := by rw [← h]; exact Nat.and_le_right
theorem sub2 {x t b : Nat} (hb : b < 2) (h : x &&& (2 * t + b) = x) : (x / 2) &&& t = x / 2 ∧ (x % 2 = 1 → b = 1) := by
  have e : x = 2 * (x / 2) + x % 2 := by omega
  rw [e, land2 (by omega) hb] at h
  split at h <;> omega
theorem nx_b {t s b : Nat} (hb : b < 2) (ht : 2 * t + b < 4294967296) (hs : s &&& t = s) : nxN 32 (2 * t + b) (2 * s + b) = 2 * nxN 32 t s := by
  have hl := sub_le hs
  by_cases q : s = t
  · subst q
    rw [nxN_t ht, nxN_t (by omega)]
  · obtain ⟨⟨a, c⟩, d⟩ := nxN_p 32 t s (by omega) hs (by omega)
    refine nxN_u ht ?_ (by omega) ?_ (by omega) (fun x h1 h2 => ?_)
    · rw [land2 hb hb, hs]; split <;> omega
    · rw [show 2 * nxN 32 t s = 2 * nxN 32 t s + 0 by omega, land2 (by decide) hb, c, if_neg (by omega)]
    · have w := sub2 hb h1
      have := d (x / 2) w.1 (by omega)
      omega
theorem nx_0 {t s : Nat} (ht : 2 * t + 1 < 4294967296) (hs : s &&& t = s) : nxN 32 (2 * t + 1) (2 * s) = 2 * s + 1 := by
  have hl := sub_le hs
  refine nxN_u ht ?_ (by omega) ?_ (by omega) (fun x _ h2 => by omega)
  · rw [show 2 * s = 2 * s + 0 by omega, land2 (by decide) (by decide), hs, if_neg (by decide)]
  · rw [land2 (by decide) (by decide), hs, if_pos (by decide)]
theorem sbN_0 {t : Nat} (ht : 2 * t < 4096) : ∀ i : Nat, sbN (2 * t) i = 2 * sbN t i := by
  intro i
  induction i with
  | zero => rfl
  | succ i ih =>
    show nxN 32 (2 * t) (sbN (2 * t) i) = 2 * nxN 32 t (sbN t i)
    rw [ih]
    exact nx_b (b := 0) (by decide) (by omega) (sbN_s (by omega) i)
theorem sbN_1 {t : Nat} (ht : 2 * t + 1 < 4096) : ∀ j : Nat, sbN (2 * t + 1) (2 * j) = 2 * sbN t j ∧ sbN (2 * t + 1) (2 * j + 1) = 2 * sbN t j + 1 := by
  intro j
  induction j with
  | zero => exact ⟨rfl, nx_0 (s := 0) (by omega) (Nat.zero_and t)⟩
  | succ j ih =>
    have e : sbN (2 * t + 1) (2 * (j + 1)) = 2 * sbN t (j + 1) := by
      show nxN 32 (2 * t + 1) (sbN (2 * t + 1) (2 * j + 1)) = 2 * nxN 32 t (sbN t j)
      rw [ih.2]
      exact nx_b (b := 1) (by decide) (by omega) (sbN_s (by omega) j)
    refine ⟨e, ?_⟩
    show nxN 32 (2 * t + 1) (sbN (2 * t + 1) (2 * (j + 1))) = _
    rw [e]
    exact nx_0 (by omega) (sbN_s (by omega) (j + 1))
theorem pcn_2 : ∀ t : Nat, t < 4096 → pcn t = pcn (t / 2) + t % 2 := by
  intro t h
  unfold pcn
  rw [show List.range 12 = [0, 1, 2, 3, 4, 5, 6, 7, 8, 9, 10, 11] from rfl]
  simp only [List.foldl]
  omega
/-- the last of the subsets is the whole -/
theorem sbN_end : ∀ w t : Nat, t < 2 ^ w → t < 4096 → sbN t (2 ^ pcn t - 1) = t ∧ ∀ i : Nat, i < 2 ^ pcn t - 1 → sbN t i < t := by
  intro w
  induction w with
  | zero =>
    intro t h _
    obtain rfl : t = 0 := by omega
    exact ⟨rfl, fun i hi => absurd hi (by rw [show pcn 0 = 0 from rfl]; omega)⟩
  | succ w ih =>
    intro t h h4
    have e2 : 2 ^ (w + 1) = 2 * 2 ^ w := by rw [Nat.pow_succ, Nat.mul_comm]
    obtain ⟨a, b⟩ := ih (t / 2) (by omega) (by omega)
    have p := pcn_2 t h4
    have pp : 0 < 2 ^ pcn (t / 2) := Nat.two_pow_pos _
    rcases (show t % 2 = 0 ∨ t % 2 = 1 by omega) with q | q
    · have et : t = 2 * (t / 2) := by omega
      have z := sbN_0 (t := t / 2) (by omega)
      rw [← et] at z
      rw [p, q, Nat.add_zero]
      exact ⟨by rw [z, a]; omega, fun i hi => by rw [z]; have := b i hi; omega⟩
    · have et : t = 2 * (t / 2) + 1 := by omega
      have z := sbN_1 (t := t / 2) (by omega)
      rw [← et] at z
      rw [p, q, show 2 ^ (pcn (t / 2) + 1) = 2 * 2 ^ pcn (t / 2) by rw [Nat.pow_succ, Nat.mul_comm]]
      refine ⟨?_, fun i hi => ?_⟩
      · rw [show 2 * 2 ^ pcn (t / 2) - 1 = 2 * (2 ^ pcn (t / 2) - 1) + 1 by omega, (z _).2, a]; omega
      · have l := sbN_le (t := t / 2) (by omega) (i / 2)
        rcases (show i % 2 = 0 ∨ i % 2 = 1 by omega) with v | v
        · rw [show i = 2 * (i / 2) by omega, (z _).1]; omega
        · have := b (i / 2) (by omega)
          rw [show i = 2 * (i / 2) + 1 by omega, (z _).2]; omega
