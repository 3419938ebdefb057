theorem and32_nat {x t : Int} (ht : 0 ≤ t ∧ t < 2147483648) : and32 x t = (((x % 4294967296).toNat &&& t.toNat : Nat) : Int) := by
  obtain ⟨n, rfl⟩ : ∃ n : Nat, t = (n : Int) := ⟨t.toNat, by omega⟩
  have h0 : (Int32.ofInt x &&& nI n).toBitVec.toNat = (x % 4294967296).toNat &&& n := by
    show ((Int32.ofInt x).toBitVec &&& (nI n).toBitVec).toNat = _
    rw [BitVec.toNat_and]
    congr 1
    show (BitVec.ofNat 32 n).toNat = n
    rw [BitVec.toNat_ofNat]
    exact Nat.mod_eq_of_lt (by omega)
  have h1 : (x % 4294967296).toNat &&& n ≤ n := Nat.and_le_right
  have h2 : and32 x (n : Int) = ((Int32.ofInt x &&& nI n).toBitVec.toNat : Int) := by
    show (Int32.ofInt x &&& nI n).toBitVec.toInt = _
    rw [BitVec.toInt_eq_toNat_cond, if_pos (by rw [h0]; omega)]
  rw [h2, h0]; rfl
/-- the i-th subset, by numbers without a sign -/
def sbN (t : Nat) : Nat → Nat
  | 0 => 0
  | i + 1 => nxN 32 t (sbN t i)
theorem sbN_s {t : Nat} (ht : t < 4096) : ∀ i : Nat, sbN t i &&& t = sbN t i := by
  intro i
  cases i with
  | zero => exact Nat.zero_and t
  | succ i =>
    show nxN 32 t (sbN t i) &&& t = nxN 32 t (sbN t i)
    unfold nxN
    rw [Nat.and_assoc, Nat.and_self]
theorem sbN_le {t : Nat} (ht : t < 4096) (i : Nat) : sbN t i ≤ t := by
  rw [← sbN_s ht i]; exact Nat.and_le_right
theorem sbC_N {t : Nat} (ht : t < 4096) : ∀ i : Nat, sbC (t : Int) i = (sbN t i : Int) := by
  intro i
  induction i with
  | zero => rfl
  | succ i ih =>
    have hl := sbN_le ht i
    show and32 (w32 (sbC (t : Int) i - t)) t = _
    rw [ih, w32_id (by omega), and32_nat (by omega)]
    show _ = ((nxN 32 t (sbN t i) : Nat) : Int)
    unfold nxN
    congr 2
    omega
