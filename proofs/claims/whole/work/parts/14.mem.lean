/-! reads behind writes -/
theorem up_eq {M : Me} {a j v a' j' : Int} (h : a' = a ∧ j' = j) : up M a j v a' j' = v := by unfold up; rw [if_pos h]
theorem up_ne {M : Me} {a j v a' j' : Int} (h : ¬ (a' = a ∧ j' = j)) : up M a j v a' j' = M a' j' := by unfold up; rw [if_neg h]
theorem cpy_in {M : Me} {a0 sp a dp n a' j : Int} (h : a' = a ∧ dp ≤ j ∧ j < dp + n) : cpy M a0 sp a dp n a' j = M a0 (sp + (j - dp)) := by unfold cpy; rw [if_pos h]
theorem cpy_out {M : Me} {a0 sp a dp n a' j : Int} (h : ¬ (a' = a ∧ dp ≤ j ∧ j < dp + n)) : cpy M a0 sp a dp n a' j = M a' j := by unfold cpy; rw [if_neg h]
theorem bi_c {p q : Prop} [Decidable p] [Decidable q] (h : p ↔ q) : (if p then (1 : Int) else 0) = (if q then 1 else 0) := by
  by_cases hp : p
  · rw [if_pos hp, if_pos (h.mp hp)]
  · rw [if_neg hp, if_neg (fun hq => hp (h.mpr hq))]
/-- the class's cells of one memory and the reference's of another -/
def mrg (C A : Me) : Me := fun a j => if a < 429 then C a j else A a j
theorem mrg_l {C A : Me} {a j : Int} (h : a < 429) : mrg C A a j = C a j := if_pos h
theorem mrg_r {C A : Me} {a j : Int} (h : ¬ a < 429) : mrg C A a j = A a j := if_neg h
theorem mrg_up_l {C A : Me} {a j v : Int} (h : a < 429) : up (mrg C A) a j v = mrg (up C a j v) A := by
  funext a' j'
  unfold up mrg
  dsimp only
  by_cases h1 : a' = a ∧ j' = j
  · rw [if_pos h1, if_pos (by omega), if_pos h1]
  · rw [if_neg h1]
    by_cases h2 : a' < 429
    · rw [if_pos h2, if_pos h2, if_neg h1]
    · rw [if_neg h2, if_neg h2]
theorem mrg_up_r {C A : Me} {a j v : Int} (h : ¬ a < 429) : up (mrg C A) a j v = mrg C (up A a j v) := by
  funext a' j'
  unfold up mrg
  dsimp only
  by_cases h1 : a' = a ∧ j' = j
  · rw [if_pos h1, if_neg (by omega), if_pos h1]
  · rw [if_neg h1]
    by_cases h2 : a' < 429
    · rw [if_pos h2, if_pos h2]
    · rw [if_neg h2, if_neg h2, if_neg h1]
theorem mrg_cpy_l {C A : Me} {a0 sp a dp n : Int} (h0 : a0 < 429) (h : a < 429) : cpy (mrg C A) a0 sp a dp n = mrg (cpy C a0 sp a dp n) A := by
  funext a' j'
  unfold cpy mrg
  dsimp only
  by_cases h1 : a' = a ∧ dp ≤ j' ∧ j' < dp + n
  · rw [if_pos h1, if_pos (by omega), if_pos (by omega), if_pos h1]
  · rw [if_neg h1]
    by_cases h2 : a' < 429
    · rw [if_pos h2, if_pos h2, if_neg h1]
    · rw [if_neg h2, if_neg h2]
theorem rd_ne {M : Me} {a j v a' j' x : Int} (h : ¬ (a' = a ∧ j' = j)) (k : M a' j' = x) : up M a j v a' j' = x := (up_ne h).trans k
theorem rd_eq {M : Me} {a j v a' j' x : Int} (h : a' = a ∧ j' = j) (k : v = x) : up M a j v a' j' = x := (up_eq h).trans k
theorem rd_in {M : Me} {a0 sp a dp n a' j x : Int} (h : a' = a ∧ dp ≤ j ∧ j < dp + n) (k : M a0 (sp + (j - dp)) = x) : cpy M a0 sp a dp n a' j = x := (cpy_in h).trans k
theorem rd_out {M : Me} {a0 sp a dp n a' j x : Int} (h : ¬ (a' = a ∧ dp ≤ j ∧ j < dp + n)) (k : M a' j = x) : cpy M a0 sp a dp n a' j = x := (cpy_out h).trans k
