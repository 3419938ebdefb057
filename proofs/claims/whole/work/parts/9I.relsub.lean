theorem land2 {a b c d : Nat} (hc : c < 2) (hd : d < 2) : (2 * a + c) &&& (2 * b + d) = 2 * (a &&& b) + (if c = 1 ∧ d = 1 then 1 else 0) := by
  apply Nat.eq_of_testBit_eq
  intro i
  cases i with
  | zero =>
    rw [Nat.testBit_and, Nat.testBit_zero, Nat.testBit_zero, Nat.testBit_zero]
    rcases (show c = 0 ∨ c = 1 by omega) with q | q <;> rcases (show d = 0 ∨ d = 1 by omega) with w | w <;> subst q <;> subst w
    · rw [if_neg (by omega), decide_eq_false (show ¬ (2 * a + 0) % 2 = 1 by omega), decide_eq_false (show ¬ (2 * (a &&& b) + 0) % 2 = 1 by omega)]; rfl
    · rw [if_neg (by omega), decide_eq_false (show ¬ (2 * a + 0) % 2 = 1 by omega), decide_eq_false (show ¬ (2 * (a &&& b) + 0) % 2 = 1 by omega)]; rfl
    · rw [if_neg (by omega), decide_eq_false (show ¬ (2 * b + 0) % 2 = 1 by omega), decide_eq_false (show ¬ (2 * (a &&& b) + 0) % 2 = 1 by omega), Bool.and_false]
    · rw [if_pos (by omega), decide_eq_true (show (2 * a + 1) % 2 = 1 by omega), decide_eq_true (show (2 * b + 1) % 2 = 1 by omega), decide_eq_true (show (2 * (a &&& b) + 1) % 2 = 1 by omega)]; rfl
  | succ i =>
    rw [Nat.testBit_and, Nat.testBit_succ, Nat.testBit_succ, Nat.testBit_succ, show (2 * a + c) / 2 = a by omega, show (2 * b + d) / 2 = b by omega, ← Nat.testBit_and]
    congr 1
    split <;> omega
/-- the subset s of t with what is not in t -/
theorem co_and : ∀ w t s : Nat, t < 2 ^ w → s &&& t = s → s ≤ t ∧ (s + (2 ^ w - 1 - t)) &&& t = s := by
  intro w
  induction w with
  | zero => intro t s ht hs; obtain rfl : t = 0 := by omega
            rw [Nat.and_zero] at hs; subst hs; exact ⟨Nat.le_refl _, rfl⟩
  | succ w ih =>
    intro t s ht hs
    have e2 : 2 ^ (w + 1) = 2 * 2 ^ w := by rw [Nat.pow_succ, Nat.mul_comm]
    obtain ⟨t', b, rfl, hb⟩ : ∃ t' b, t = 2 * t' + b ∧ b < 2 := ⟨t / 2, t % 2, by omega, by omega⟩
    obtain ⟨s', c, rfl, hc⟩ : ∃ s' c, s = 2 * s' + c ∧ c < 2 := ⟨s / 2, s % 2, by omega, by omega⟩
    rw [land2 hc hb] at hs
    have hs' : s' &&& t' = s' ∧ (c = 1 → b = 1) := by split at hs <;> omega
    obtain ⟨i1, i2⟩ := ih t' s' (by omega) hs'.1
    refine ⟨by omega, ?_⟩
    rcases (show b = 0 ∨ b = 1 by omega) with q | q <;> subst q
    · obtain rfl : c = 0 := by have := hs'.2; omega
      rw [show 2 * s' + 0 + (2 ^ (w + 1) - 1 - (2 * t' + 0)) = 2 * (s' + (2 ^ w - 1 - t')) + 1 by omega, land2 (by decide) (by decide), i2, if_neg (by decide)]
    · rw [show 2 * s' + c + (2 ^ (w + 1) - 1 - (2 * t' + 1)) = 2 * (s' + (2 ^ w - 1 - t')) + c by omega, land2 hc (by decide), i2]
      split <;> omega
def nxN (w t s : Nat) : Nat := ((s + (2 ^ w - t)) % 2 ^ w) &&& t
/-- the subset of t after s -/
theorem nxN_p : ∀ w t s : Nat, t < 2 ^ w → s &&& t = s → s < t → (s < nxN w t s ∧ nxN w t s &&& t = nxN w t s) ∧ ∀ x : Nat, x &&& t = x → s < x → nxN w t s ≤ x := by
  intro w
  induction w with
  | zero => intro t s ht hs hl; omega
  | succ w ih =>
    intro t s ht hs hl
    have e2 : 2 ^ (w + 1) = 2 * 2 ^ w := by rw [Nat.pow_succ, Nat.mul_comm]
    obtain ⟨t', b, rfl, hb⟩ : ∃ t' b, t = 2 * t' + b ∧ b < 2 := ⟨t / 2, t % 2, by omega, by omega⟩
    obtain ⟨s', c, rfl, hc⟩ : ∃ s' c, s = 2 * s' + c ∧ c < 2 := ⟨s / 2, s % 2, by omega, by omega⟩
    rw [land2 hc hb] at hs
    have hs' : s' &&& t' = s' ∧ (c = 1 → b = 1) := by split at hs <;> omega
    have hx : ∀ x : Nat, x &&& (2 * t' + b) = x → ∃ x' e, x = 2 * x' + e ∧ e < 2 ∧ x' &&& t' = x' ∧ (e = 1 → b = 1) := fun x h => by
      refine ⟨x / 2, x % 2, by omega, by omega, ?_⟩
      rw [show x = 2 * (x / 2) + x % 2 by omega, land2 (by omega) hb] at h
      split at h <;> omega
    by_cases q : b = c
    · subst q
      obtain ⟨⟨i1, i2⟩, i3⟩ := ih t' s' (by omega) hs'.1 (by omega)
      have ev : nxN (w + 1) (2 * t' + b) (2 * s' + b) = 2 * nxN w t' s' := by
        unfold nxN
        rw [show 2 * s' + b + (2 ^ (w + 1) - (2 * t' + b)) = 2 * (s' + (2 ^ w - t')) by omega, e2, Nat.mul_mod_mul_left, show 2 * ((s' + (2 ^ w - t')) % 2 ^ w) = 2 * ((s' + (2 ^ w - t')) % 2 ^ w) + 0 by omega, land2 (by decide) hb, if_neg (by omega)]; rfl
      rw [ev]
      refine ⟨⟨by omega, ?_⟩, fun x h1 h2 => ?_⟩
      · rw [show 2 * nxN w t' s' = 2 * nxN w t' s' + 0 by omega, land2 (by decide) hb, i2, if_neg (by omega)]
      · obtain ⟨x', e, rfl, he, h3, h4⟩ := hx x h1
        have := i3 x' h3 (by omega)
        omega
    · obtain rfl : c = 0 := by have := hs'.2; omega
      obtain rfl : b = 1 := by omega
      obtain ⟨k1, k2⟩ := co_and w t' s' (by omega) hs'.1
      have ev : nxN (w + 1) (2 * t' + 1) (2 * s' + 0) = 2 * s' + 1 := by
        unfold nxN
        rw [show 2 * s' + 0 + (2 ^ (w + 1) - (2 * t' + 1)) = 2 * (s' + (2 ^ w - 1 - t')) + 1 by omega, Nat.mod_eq_of_lt (by omega), land2 (by decide) (by decide), k2, if_pos (by decide)]
      rw [ev]
      refine ⟨⟨by omega, ?_⟩, fun x _ h2 => by omega⟩
      rw [land2 (by decide) (by decide), hs'.1, if_pos (by decide)]
