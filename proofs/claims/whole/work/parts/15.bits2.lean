/-! bits of numbers that are not negative -/
theorem oI_of {x : Int} (h : 0 ≤ x) : Int32.ofInt x = nI x.toNat := by
  obtain ⟨n, rfl⟩ : ∃ n : Nat, x = (n : Int) := ⟨x.toNat, by omega⟩
  rfl
theorem sm31 : ∀ k : Nat, k < 32 → ((Int32.ofInt (k : Int) &&& 31).toBitVec.smod 32).toNat = k := by decide +kernel
theorem shl32_n {x : Int} {k : Nat} (h0 : 0 ≤ x) (hk : k < 32) (h : x * (2 ^ k : Nat) < 2147483648) : shl32 x k = x * (2 ^ k : Nat) := by
  obtain ⟨n, rfl⟩ : ∃ n : Nat, x = (n : Int) := ⟨x.toNat, by omega⟩
  have hn : n * 2 ^ k < 2147483648 := by rw [← Int.natCast_mul] at h; exact Int.ofNat_lt.mp h
  unfold shl32
  rw [oI_nI n, pk_shlN _ k (sm31 k hk) (by omega), nI_toInt (by omega)]
  exact Int.natCast_mul n (2 ^ k)
theorem shr32_n {x : Int} {k : Nat} (h0 : 0 ≤ x) (h : x < 2147483648) (hk : k < 32) : shr32 x k = x / (2 ^ k : Nat) := by
  obtain ⟨n, rfl⟩ : ∃ n : Nat, x = (n : Int) := ⟨x.toNat, by omega⟩
  unfold shr32
  have h2 : n / 2 ^ k ≤ n := Nat.div_le_self _ _
  rw [oI_nI n, pk_shrN (by omega) _ k (sm31 k hk), nI_toInt (by omega)]
  exact Int.natCast_ediv n (2 ^ k)
theorem and32_n {a b : Nat} (ha : a < 2147483648) (hb : b < 2147483648) : and32 a b = ((a &&& b : Nat) : Int) := by
  unfold and32
  have h : a &&& b ≤ a := Nat.and_le_left
  have e : nI a &&& nI b = nI (a &&& b) := by
    apply Int32.toBitVec_inj.mp
    show BitVec.ofNat 32 a &&& BitVec.ofNat 32 b = BitVec.ofNat 32 (a &&& b)
    exact BitVec.ofNat_and.symm
  rw [oI_nI, oI_nI, e, nI_toInt (by omega)]
theorem or32_n {a b : Nat} (h : a ||| b < 2147483648) : or32 a b = ((a ||| b : Nat) : Int) := by
  unfold or32
  have e : nI a ||| nI b = nI (a ||| b) := by
    apply Int32.toBitVec_inj.mp
    show BitVec.ofNat 32 a ||| BitVec.ofNat 32 b = BitVec.ofNat 32 (a ||| b)
    exact BitVec.ofNat_or.symm
  rw [oI_nI, oI_nI, e, nI_toInt (by omega)]
theorem and32_mask {x : Int} (k : Nat) (h0 : 0 ≤ x) (h : x < 2147483648) (hk : k < 31) : and32 x ((2 ^ k - 1 : Nat) : Int) = x % ((2 ^ k : Nat) : Int) := by
  obtain ⟨n, rfl⟩ : ∃ n : Nat, x = (n : Int) := ⟨x.toNat, by omega⟩
  have hp : 2 ^ k ≤ 2 ^ 30 := Nat.pow_le_pow_right (by decide) (by omega)
  rw [and32_n (by omega) (by omega), Nat.and_two_pow_sub_one_eq_mod]
  exact Int.natCast_emod n (2 ^ k)
theorem or32_add {x y : Int} (k : Nat) (h0 : 0 ≤ x) (h1 : 0 ≤ y) (h2 : y < ((2 ^ k : Nat) : Int)) (h3 : x * ((2 ^ k : Nat) : Int) + y < 2147483648) : or32 (x * ((2 ^ k : Nat) : Int)) y = x * ((2 ^ k : Nat) : Int) + y := by
  obtain ⟨a, rfl⟩ : ∃ n : Nat, x = (n : Int) := ⟨x.toNat, by omega⟩
  obtain ⟨b, rfl⟩ : ∃ n : Nat, y = (n : Int) := ⟨y.toNat, by omega⟩
  have hb : b < 2 ^ k := Int.ofNat_lt.mp h2
  have h3 : a * 2 ^ k + b < 2147483648 := by rw [← Int.natCast_mul, ← Int.natCast_add] at h3; exact Int.ofNat_lt.mp h3
  have e := Nat.two_pow_add_eq_or_of_lt hb a
  rw [Nat.mul_comm (2 ^ k) a] at e
  rw [← Int.natCast_mul, or32_n (by rw [← e]; exact h3), ← e]
  rfl
