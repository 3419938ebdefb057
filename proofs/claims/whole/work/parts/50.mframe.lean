/-- what a step of the reference's reading leaves as it was -/
def FR (M N : Me) : Prop := (∀ a j : Int, a ≠ 434 → ¬ (a = 429 ∧ ((7 ≤ j ∧ j ≤ 11) ∨ j = 13 ∨ (16 ≤ j ∧ j ≤ 18))) → (a = 432 → j < M 429 12 + 97 + 2 * M 429 13) → N a j = M a j) ∧ M 429 13 ≤ N 429 13
theorem FR.rf {M : Me} : FR M M := ⟨fun _ _ _ _ _ => rfl, Int.le_refl _⟩
theorem FR.tr {M N O : Me} (h : FR M N) (k : FR N O) : FR M O := by
  have h12 : N 429 12 = M 429 12 := h.1 429 12 (by decide) (by omega) (by omega)
  have := h.2
  have := k.2
  exact ⟨fun a j p q r => (k.1 a j p q (fun e => by have := r e; omega)).trans (h.1 a j p q r), by omega⟩
theorem FR.up {M : Me} {a j v : Int} (h : a = 434 ∨ (a = 429 ∧ ((7 ≤ j ∧ j ≤ 11) ∨ (16 ≤ j ∧ j ≤ 18)))) : FR M (up M a j v) := ⟨fun a' j' p q r => up_ne (by omega), by rw [up_ne (by omega)]; exact Int.le_refl _⟩
theorem FR.em {M : Me} {k v : Int} : FR M (emA M k v) := by
  refine ⟨fun a j p q r => ?_, by rw [emA_13]; omega⟩
  unfold emA
  rw [up_ne (by omega), up_ne (by intro e; have := r e.1; omega), up_ne (by intro e; have := r e.1; omega)]
theorem FR.nx {M : Me} {n : Nat} : FR M (nxT M n) := ⟨fun a j p q r => nxT_o (by omega), by rw [nxT_o (by omega)]; exact Int.le_refl _⟩
theorem FR.tp {M : Me} {i : Int} : FR M (tpA M i) := (FR.up (Or.inr ⟨rfl, by omega⟩)).tr FR.em
theorem FR.st {r : Int} : ∀ (i : Nat) (M : Me), FR M (stl M r i) := by
  intro i
  induction i with
  | zero => intro M; exact FR.rf
  | succ i ih =>
    intro M
    unfold stl
    split
    · refine FR.tr ?_ (ih _)
      split
      · exact FR.tp.tr (FR.up (Or.inr ⟨rfl, by omega⟩))
      · exact FR.tp
    · exact FR.rf
theorem FR.oq {M : Me} {v : Int} {n : Nat} : FR M (oqM M v n) := by
  unfold oqM
  split
  · exact FR.rf
  · unfold opM
    exact (FR.up (Or.inr ⟨rfl, by omega⟩)).tr ((FR.up (Or.inl rfl)).tr ((FR.up (Or.inr ⟨rfl, by omega⟩)).tr FR.nx))
theorem FR.lf {M : Me} {n m : Nat} {k v : Int} : FR M (lfM M n m k v) := FR.em.tr (FR.nx.tr ((FR.up (Or.inr ⟨rfl, by omega⟩)).tr (FR.st m _)))
theorem FR.ps {M : Me} {o : Int} {n : Nat} : FR M (psM M o n) := (FR.up (Or.inl rfl)).tr ((FR.up (Or.inr ⟨rfl, by omega⟩)).tr ((FR.up (Or.inr ⟨rfl, by omega⟩)).tr FR.nx))
theorem FR.b1 {M : Me} {n m : Nat} : FR M (bh1 M n m) := (FR.st m M).tr FR.nx
theorem FR.b2 {M : Me} {n m : Nat} : FR M (bh2 M n m) := FR.b1.tr ((FR.up (Or.inr ⟨rfl, by omega⟩)).tr (FR.up (Or.inr ⟨rfl, by omega⟩)))
theorem FR.b3 {M : Me} {n m : Nat} : FR M (bh3 M n m) := by
  unfold bh3
  split
  · exact FR.b2.tr FR.em
  · exact FR.b2
theorem FR.bg {M : Me} {n m : Nat} : FR M (bgM M n m) := by
  unfold bgM
  (repeat' split) <;> first | exact FR.rf | exact FR.lf | exact FR.oq
theorem FR.bh {M : Me} {n m : Nat} : FR M (bhM M n m) := by
  unfold bhM
  (repeat' split)
  · exact (FR.st m M).tr FR.ps
  · exact FR.rf
  · exact FR.b1.tr ((FR.up (Or.inl rfl)).tr (FR.up (Or.inr ⟨rfl, by omega⟩)))
  · exact FR.b3.tr (FR.st _ _)
theorem FR.sd {M : Me} {n : Nat} : FR M (sdA M n).2 := by
  unfold sdA
  (repeat' split) <;> first | exact FR.rf | exact FR.bg | exact FR.bh | exact FR.st _ _
theorem FR.sm {n : Nat} : ∀ (k : Nat) (M : Me), FR M (smI n k M).2 := by
  intro k
  induction k with
  | zero => intro M; exact FR.rf
  | succ k ih =>
    intro M
    unfold smI
    split
    · exact FR.sd.tr (ih _)
    · exact FR.sd
/-- the place stays within the tape -/
abbrev P7 (M : Me) (n : Nat) : Prop := M 429 4 = (n : Int) ∧ 0 ≤ M 429 7 ∧ M 429 7 ≤ n
theorem P7.of {M N : Me} {n : Nat} (h : P7 M n) (h4 : N 429 4 = M 429 4) (h7 : N 429 7 = M 429 7) : P7 N n := ⟨h4.trans h.1, by rw [h7]; exact h.2⟩
theorem P7.nx {M : Me} {n : Nat} (h : P7 M n) : P7 (nxT M n) n := ⟨(nxT_o (by omega)).trans h.1, nxT_7 h.1 h.2⟩
theorem P7.up {M : Me} {n : Nat} {a j v : Int} (h : P7 M n) (k : ¬ (a = 429 ∧ (j = 4 ∨ j = 7))) : P7 (up M a j v) n := h.of (up_ne (by omega)) (up_ne (by omega))
theorem P7.em {M : Me} {n : Nat} {k v : Int} (h : P7 M n) : P7 (emA M k v) n := h.of (emA_o (by omega)) (emA_o (by omega))
theorem P7.st {n : Nat} {r : Int} : ∀ (i : Nat) (M : Me), P7 M n → P7 (stl M r i) n := by
  intro i
  induction i with
  | zero => intro M h; exact h
  | succ i ih =>
    intro M h
    unfold stl
    split
    · refine ih _ ?_
      have ht : P7 (tpA M i) n := h.of (tpA_o (by omega)) (tpA_o (by omega))
      split
      · exact ht.up (by omega)
      · exact ht
    · exact h
theorem P7.oq {M : Me} {n : Nat} {v : Int} (h : P7 M n) : P7 (oqM M v n) n := by
  unfold oqM
  split
  · exact h
  · exact (((h.up (by omega)).up (by omega)).up (by omega)).nx
theorem P7.lf {M : Me} {n m : Nat} {k v : Int} (h : P7 M n) : P7 (lfM M n m k v) n := P7.st m _ (h.em.nx.up (by omega))
theorem P7.ps {M : Me} {n : Nat} {o : Int} (h : P7 M n) : P7 (psM M o n) n := (((h.up (by omega)).up (by omega)).up (by omega)).nx
theorem P7.b1 {M : Me} {n m : Nat} (h : P7 M n) : P7 (bh1 M n m) n := (P7.st m M h).nx
theorem P7.b2 {M : Me} {n m : Nat} (h : P7 M n) : P7 (bh2 M n m) n := (h.b1.up (by omega)).up (by omega)
theorem P7.b3 {M : Me} {n m : Nat} (h : P7 M n) : P7 (bh3 M n m) n := by
  unfold bh3
  split
  · exact h.b2.em
  · exact h.b2
theorem P7.bg {M : Me} {n m : Nat} (h : P7 M n) : P7 (bgM M n m) n := by
  unfold bgM
  (repeat' split) <;> first | exact h | exact h.lf | exact h.oq
theorem P7.bh {M : Me} {n m : Nat} (h : P7 M n) : P7 (bhM M n m) n := by
  unfold bhM
  (repeat' split)
  · exact (P7.st m M h).ps
  · exact h
  · exact (h.b1.up (by omega)).up (by omega)
  · exact P7.st _ _ h.b3
theorem P7.sd {M : Me} {n : Nat} (h : P7 M n) : P7 (sdA M n).2 n := by
  unfold sdA
  (repeat' split) <;> first | exact h | exact h.bg | exact h.bh | exact P7.st _ _ h
theorem P7.sm {n : Nat} : ∀ (k : Nat) (M : Me), P7 M n → P7 (smI n k M).2 n := by
  intro k
  induction k with
  | zero => intro M h; exact h
  | succ k ih =>
    intro M h
    unfold smI
    split
    · exact ih _ h.sd
    · exact h.sd
