def bt (x : Int32) (i : Nat) : Bool := x.toBitVec.getLsbD i
theorem b_ext {x y : Int32} (h : ∀ i, i < 32 → bt x i = bt y i) : x = y := Int32.toBitVec_inj.mp (BitVec.eq_of_getLsbD_eq (fun i hi => h i hi))
theorem b_or (x y : Int32) (i : Nat) : bt (x ||| y) i = (bt x i || bt y i) := by unfold bt; rw [Int32.toBitVec_or, BitVec.getLsbD_or]
theorem b_and (x y : Int32) (i : Nat) : bt (x &&& y) i = (bt x i && bt y i) := by unfold bt; rw [Int32.toBitVec_and, BitVec.getLsbD_and]
theorem b_xor (x y : Int32) (i : Nat) : bt (x ^^^ y) i = (bt x i ^^ bt y i) := by unfold bt; rw [Int32.toBitVec_xor, BitVec.getLsbD_xor]
theorem b_big {x : Int32} {i : Nat} (h : 32 ≤ i) : bt x i = false := BitVec.getLsbD_of_ge _ _ h
theorem b_255 (i : Nat) : bt 255 i = decide (i < 8) := by
  rcases Nat.lt_or_ge i 32 with h | h
  · exact (by decide +kernel : ∀ i, i < 32 → bt 255 i = decide (i < 8)) i h
  · rw [b_big h, decide_eq_false (by omega)]
theorem b_65535 (i : Nat) : bt 65535 i = decide (i < 16) := by
  rcases Nat.lt_or_ge i 32 with h | h
  · exact (by decide +kernel : ∀ i, i < 32 → bt 65535 i = decide (i < 16)) i h
  · rw [b_big h, decide_eq_false (by omega)]
theorem b_m1 : ∀ i, i < 32 → bt (-1) i = true := by decide +kernel
theorem b_0 (i : Nat) : bt 0 i = false := BitVec.getLsbD_zero
theorem s_l : ∀ n, n < 32 → ((nI n &&& 31).toBitVec.smod 32).toNat = n := by decide +kernel
theorem s_u : ∀ n, n < 32 → (((nI n).toUInt32 &&& Int32.toUInt32 31).toBitVec % 32).toNat = n := by decide +kernel
theorem b_shl (n : Nat) (hn : n < 32) (x : Int32) {i : Nat} (hi : i < 32) : bt (x <<< (nI n &&& 31)) i = (decide (n ≤ i) && bt x (i - n)) := by
  unfold bt
  rw [Int32.toBitVec_shiftLeft]
  show (x.toBitVec <<< ((nI n &&& 31).toBitVec.smod 32).toNat).getLsbD i = _
  rw [s_l n hn, BitVec.getLsbD_shiftLeft]
  rcases Nat.lt_or_ge i n with h | h
  · simp [h, Nat.not_le.mpr h]
  · simp [hi, h, Nat.not_lt.mpr h]
theorem b_ushr (n : Nat) (hn : n < 32) (x : Int32) (i : Nat) : bt ((x.toUInt32 >>> ((nI n).toUInt32 &&& Int32.toUInt32 31)).toInt32) i = bt x (n + i) := by
  show (x.toUInt32 >>> ((nI n).toUInt32 &&& Int32.toUInt32 31)).toBitVec.getLsbD i = x.toUInt32.toBitVec.getLsbD (n + i)
  rw [UInt32.toBitVec_shiftRight]
  show (x.toUInt32.toBitVec >>> (((nI n).toUInt32 &&& Int32.toUInt32 31).toBitVec % 32).toNat).getLsbD i = _
  rw [s_u n hn, BitVec.getLsbD_ushiftRight]
theorem b_sshr (n : Nat) (hn : n < 32) (x : Int32) {i : Nat} (hi : i < 32) : bt (x >>> (nI n &&& 31)) i = if n + i < 32 then bt x (n + i) else bt x 31 := by
  unfold bt
  rw [Int32.toBitVec_shiftRight]
  show (x.toBitVec.sshiftRight ((nI n &&& 31).toBitVec.smod 32).toNat).getLsbD i = _
  rw [s_l n hn, BitVec.getLsbD_sshiftRight, BitVec.msb_eq_getLsbD_last]
  simp [hi]
/-! bits of whole numbers -/
def tb (s : Int) (j : Nat) : Bool := bt (Int32.ofInt s) j
theorem oI_oI (X : Int32) : Int32.ofInt X.toInt = X := Int32.ofInt_toInt X
theorem tb_or (a b : Int) (j : Nat) : tb (or32 a b) j = (tb a j || tb b j) := by unfold tb or32; rw [oI_oI, b_or]
theorem tb_and (a b : Int) (j : Nat) : tb (and32 a b) j = (tb a j && tb b j) := by unfold tb and32; rw [oI_oI, b_and]
theorem tb_xor (a b : Int) (j : Nat) : tb (xor32 a b) j = (tb a j ^^ tb b j) := by unfold tb xor32; rw [oI_oI, b_xor]
theorem tb_not (a : Int) {j : Nat} (hj : j < 32) : tb (xor32 a (-1)) j = !(tb a j) := by
  rw [tb_xor]
  have : tb (-1) j = true := b_m1 j hj
  rw [this]; cases tb a j <;> rfl
theorem tb_big {a : Int} {j : Nat} (h : 32 ≤ j) : tb a j = false := b_big h
theorem tb_0 (j : Nat) : tb 0 j = false := b_0 j
theorem tb_ext {a b : Int} (ha : -2147483648 ≤ a ∧ a < 2147483648) (hb : -2147483648 ≤ b ∧ b < 2147483648) (h : ∀ j, j < 32 → tb a j = tb b j) : a = b := (oI_eq ha hb).mp (b_ext h)
theorem or32_in (a b : Int) : -2147483648 ≤ or32 a b ∧ or32 a b < 2147483648 := oI_in _
theorem and32_in (a b : Int) : -2147483648 ≤ and32 a b ∧ and32 a b < 2147483648 := oI_in _
theorem xor32_in (a b : Int) : -2147483648 ≤ xor32 a b ∧ xor32 a b < 2147483648 := oI_in _
theorem shl32_in (a b : Int) : -2147483648 ≤ shl32 a b ∧ shl32 a b < 2147483648 := oI_in _
theorem shr32_in (a b : Int) : -2147483648 ≤ shr32 a b ∧ shr32 a b < 2147483648 := oI_in _
theorem oI_nI (n : Nat) : Int32.ofInt (n : Int) = nI n := rfl
theorem tb_shl1 {c : Nat} (hc : c < 32) {j : Nat} (hj : j < 32) : tb (shl32 1 c) j = decide (j = c) := by
  unfold tb shl32
  rw [oI_oI, oI_nI, b_shl c hc _ hj]
  have h1 : ∀ i, i < 32 → bt (Int32.ofInt 1) i = decide (i = 0) := by decide +kernel
  by_cases h : c ≤ j
  · rw [h1 (j - c) (by omega)]
    simp only [h, decide_true, Bool.true_and]
    by_cases h2 : j = c
    · subst h2; simp
    · have : ¬ j - c = 0 := by omega
      simp [h2, this]
  · have : ¬ j = c := by omega
    simp [h, this]
theorem tb_has {s : Int} {j : Nat} (hj : j < 32) : and32 (shr32 s j) 1 = 1 ↔ tb s j = true := by
  have h1 : ∀ i, i < 32 → bt (Int32.ofInt 1) i = decide (i = 0) := by decide +kernel
  have e : ∀ i, i < 32 → tb (and32 (shr32 s j) 1) i = (tb s j && decide (i = 0)) := by
    intro i hi
    rw [tb_and]
    unfold tb shr32
    rw [oI_oI, oI_nI, b_sshr j hj _ hi, h1 i hi]
    by_cases h : i = 0
    · subst h; simp [hj]
    · simp [h]
  constructor
  · intro h
    have := e 0 (by decide)
    rw [h] at this
    cases hb : tb s j with
    | true => rfl
    | false => rw [hb] at this; revert this; decide
  · intro h
    refine tb_ext (and32_in _ _) (by decide) (fun i hi => ?_)
    rw [e i hi, h]
    exact (h1 i hi).symm
theorem tb_ne0 {s : Int} (hs : -2147483648 ≤ s ∧ s < 2147483648) : s ≠ 0 ↔ ∃ j, j < 32 ∧ tb s j = true := by
  constructor
  · intro h
    apply Classical.byContradiction
    intro hn
    apply h
    refine tb_ext hs (by decide) (fun j hj => ?_)
    rw [tb_0]
    cases hb : tb s j with
    | false => rfl
    | true => exact absurd ⟨j, hj, hb⟩ hn
  · rintro ⟨j, hj, h⟩ rfl
    rw [tb_0] at h; cases h
