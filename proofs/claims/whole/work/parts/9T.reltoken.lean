theorem shl64_8 {n : Nat} (h : n < 36028797018963968) : shl64 (n : Int) 8 = ((n * 256 : Nat) : Int) := by
  unfold shl64
  have e : ((Int32.ofInt 8).toInt64 &&& 63) = (8 : Int64) := by decide
  rw [e]
  have e2 : (Int64.ofInt (n : Int) <<< (8 : Int64)).toBitVec = BitVec.ofNat 64 (n * 256) := by
    show (BitVec.ofInt 64 (n : Int)) <<< ((8 : Int64).toBitVec.smod 64) = _
    rw [show ((8 : Int64).toBitVec.smod 64) = 8#64 from by decide, BitVec.ofInt_natCast, BitVec.shiftLeft_eq']
    apply BitVec.eq_of_toNat_eq
    rw [BitVec.toNat_shiftLeft, Nat.shiftLeft_eq]
    show (BitVec.ofNat 64 n).toNat * 2 ^ 8 % 2 ^ 64 = _
    rw [BitVec.toNat_ofNat, BitVec.toNat_ofNat, Nat.mod_eq_of_lt (show n < 2 ^ 64 by omega)]
  show (Int64.ofInt (n : Int) <<< (8 : Int64)).toBitVec.toInt = _
  rw [e2, BitVec.toInt_eq_toNat_cond, BitVec.toNat_ofNat, Nat.mod_eq_of_lt (show n * 256 < 2 ^ 64 by omega), if_pos (by omega)]
theorem or64_add {n b : Nat} (h : n < 36028797018963968) (hb : b < 256) : or64 ((n * 256 : Nat) : Int) (b : Int) = ((n * 256 + b : Nat) : Int) := by
  unfold or64
  have e2 : (Int64.ofInt ((n * 256 : Nat) : Int) ||| Int64.ofInt (b : Int)).toBitVec = BitVec.ofNat 64 (n * 256 + b) := by
    show (BitVec.ofInt 64 ((n * 256 : Nat) : Int)) ||| (BitVec.ofInt 64 (b : Int)) = _
    rw [BitVec.ofInt_natCast, BitVec.ofInt_natCast]
    apply BitVec.eq_of_toNat_eq
    rw [BitVec.toNat_or, BitVec.toNat_ofNat, BitVec.toNat_ofNat, BitVec.toNat_ofNat, Nat.mod_eq_of_lt (show n * 256 < 2 ^ 64 by omega), Nat.mod_eq_of_lt (show b < 2 ^ 64 by omega), Nat.mod_eq_of_lt (show n * 256 + b < 2 ^ 64 by omega)]
    have e := Nat.two_pow_add_eq_or_of_lt (show b < 2 ^ 8 from hb) n
    rw [Nat.mul_comm (2 ^ 8) n] at e
    exact e.symm
  show (Int64.ofInt ((n * 256 : Nat) : Int) ||| Int64.ofInt (b : Int)).toBitVec.toInt = _
  rw [e2, BitVec.toInt_eq_toNat_cond, BitVec.toNat_ofNat, Nat.mod_eq_of_lt (show n * 256 + b < 2 ^ 64 by omega), if_pos (by omega)]
theorem shr64_48 {n : Nat} (h : n < 9223372036854775808) : shr64 (n : Int) 48 = ((n / 281474976710656 : Nat) : Int) := by
  unfold shr64
  have e : ((Int32.ofInt 48).toInt64 &&& 63) = (48 : Int64) := by decide
  rw [e]
  have hl : n / 281474976710656 < 2 ^ 64 := by omega
  have e2 : (Int64.ofInt (n : Int) >>> (48 : Int64)).toBitVec = BitVec.ofNat 64 (n / 281474976710656) := by
    show BitVec.sshiftRight' (BitVec.ofInt 64 (n : Int)) ((48 : Int64).toBitVec.smod 64) = _
    rw [show ((48 : Int64).toBitVec.smod 64) = 48#64 from by decide, BitVec.ofInt_natCast, BitVec.sshiftRight_eq']
    have ms : (BitVec.ofNat 64 n).msb = false := by
      rw [BitVec.msb_eq_false_iff_two_mul_lt, BitVec.toNat_ofNat, Nat.mod_eq_of_lt (show n < 2 ^ 64 by omega)]; omega
    rw [BitVec.sshiftRight_eq_of_msb_false ms]
    apply BitVec.eq_of_toNat_eq
    rw [BitVec.toNat_ushiftRight]
    show (BitVec.ofNat 64 n).toNat >>> 48 = _
    rw [BitVec.toNat_ofNat, BitVec.toNat_ofNat, Nat.mod_eq_of_lt (show n < 2 ^ 64 by omega), Nat.mod_eq_of_lt hl, Nat.shiftRight_eq_div_pow]
  show (Int64.ofInt (n : Int) >>> (48 : Int64)).toBitVec.toInt = _
  rw [e2, BitVec.toInt_eq_toNat_cond, BitVec.toNat_ofNat, Nat.mod_eq_of_lt hl, if_pos (by omega)]
/-- one letter more in a word's number -/
def stW (w b : Int) : Int := if shr64 w 48 = 0 then or64 (shl64 w 8) b else 1152921504606846976
theorem stW_1 {n b : Nat} (h : n < 281474976710656) (hb : b < 256) : stW (n : Int) (b : Int) = ((n * 256 + b : Nat) : Int) := by
  unfold stW
  rw [shr64_48 (by omega), if_pos (by omega), shl64_8 (by omega), or64_add (by omega) hb]
theorem stW_2 {n : Nat} {b : Int} (h : 281474976710656 ≤ n) (h2 : n < 9223372036854775808) : stW (n : Int) b = 1152921504606846976 := by
  unfold stW
  rw [shr64_48 h2, if_neg (by omega)]
/-- a word's number, as the reference reckons it -/
def cdW (l : List Int) : Int := l.foldl stW 0
/-- its letters as figures -/
def bnF (w : Nat) (l : List Int) : Nat := l.foldl (fun w b => w * 256 + b.toNat) w
theorem bnF_le : ∀ (l : List Int) (w : Nat), w ≤ bnF w l := by
  intro l
  induction l with
  | nil => intro w; exact Nat.le_refl w
  | cons b r ih => intro w; have := ih (w * 256 + b.toNat); show w ≤ bnF (w * 256 + b.toNat) r; omega
abbrev byL (l : List Int) : Prop := ∀ b : Int, b ∈ l → 1 ≤ b ∧ b < 256
theorem cd_1 : ∀ (l : List Int) (w : Nat), byL l → bnF w l < 72057594037927936 → l.foldl stW (w : Int) = (bnF w l : Int) := by
  intro l
  induction l with
  | nil => intro w _ _; rfl
  | cons b r ih =>
    intro w hl hb
    have b1 := hl b (List.mem_cons_self ..)
    have hb2 : bnF (w * 256 + b.toNat) r < 72057594037927936 := hb
    have le := bnF_le r (w * 256 + b.toNat)
    obtain ⟨c, hc⟩ := Int.eq_ofNat_of_zero_le (show 0 ≤ b by omega)
    have hc : b = (c : Int) := hc
    subst hc
    show r.foldl stW (stW (w : Int) (c : Int)) = _
    rw [stW_1 (by omega) (by omega)]
    exact ih (w * 256 + c) (fun x hx => hl x (List.mem_cons_of_mem _ hx)) hb2
theorem cd_3 : ∀ l : List Int, l.foldl stW 1152921504606846976 = 1152921504606846976 := by
  intro l
  induction l with
  | nil => rfl
  | cons b r ih =>
    show r.foldl stW (stW ((1152921504606846976 : Nat) : Int) b) = _
    rw [stW_2 (by omega) (by omega)]; exact ih
theorem cd_2 : ∀ (l : List Int) (w : Nat), byL l → w < 72057594037927936 → 72057594037927936 ≤ bnF w l → l.foldl stW (w : Int) = 1152921504606846976 := by
  intro l
  induction l with
  | nil => intro w _ h1 h2; exact absurd h2 (by show ¬ 72057594037927936 ≤ w; omega)
  | cons b r ih =>
    intro w hl h1 h2
    have b1 := hl b (List.mem_cons_self ..)
    obtain ⟨c, hc⟩ := Int.eq_ofNat_of_zero_le (show 0 ≤ b by omega)
    have hc : b = (c : Int) := hc
    subst hc
    show r.foldl stW (stW (w : Int) (c : Int)) = _
    by_cases q : w < 281474976710656
    · rw [stW_1 q (by omega)]
      exact ih (w * 256 + c) (fun x hx => hl x (List.mem_cons_of_mem _ hx)) (by omega) h2
    · rw [stW_2 (by omega) (by omega)]; exact cd_3 r
theorem bn_inj : ∀ l m : List Int, byL l → byL m → bnF 0 l = bnF 0 m → l = m := by
  have ap : ∀ (l : List Int) (b : Int), bnF 0 (l ++ [b]) = bnF 0 l * 256 + b.toNat := fun l b => by unfold bnF; rw [List.foldl_append]; rfl
  have key : ∀ (k : Nat) (l m : List Int), l.length = k → byL l → byL m → bnF 0 l = bnF 0 m → l = m := by
    intro k
    induction k with
    | zero =>
      intro l m hk hl hm h
      obtain rfl : l = [] := List.eq_nil_of_length_eq_zero hk
      rcases List.eq_nil_or_concat m with q | ⟨m', b, q⟩
      · exact q.symm
      · rw [List.concat_eq_append] at q
        subst q
        have b1 := hm b (List.mem_append_right _ (List.mem_singleton.mpr rfl))
        rw [ap] at h
        have h : 0 = bnF 0 m' * 256 + b.toNat := h
        omega
    | succ k ih =>
      intro l m hk hl hm h
      rcases List.eq_nil_or_concat l with q | ⟨l', b, q⟩
      · subst q; exact absurd hk (by show ¬ 0 = k + 1; omega)
      · rw [List.concat_eq_append] at q
        subst q
        have b1 := hl b (List.mem_append_right _ (List.mem_singleton.mpr rfl))
        rcases List.eq_nil_or_concat m with w | ⟨m', c, w⟩
        · subst w
          rw [ap] at h
          have h : bnF 0 l' * 256 + b.toNat = 0 := h
          omega
        · rw [List.concat_eq_append] at w
          subst w
          have c1 := hm c (List.mem_append_right _ (List.mem_singleton.mpr rfl))
          rw [ap, ap] at h
          have e1 : b = c := by omega
          have e2 : bnF 0 l' = bnF 0 m' := by omega
          rw [List.length_append] at hk
          have hk : l'.length + 1 = k + 1 := hk
          rw [ih l' m' (by omega) (fun x hx => hl x (List.mem_append_left _ hx)) (fun x hx => hm x (List.mem_append_left _ hx)) e2, e1]
  exact fun l m => key l.length l m rfl
/-- a short word's number tells the word -/
theorem cd_eq {l w : List Int} (hl : byL l) (hw : byL w) (h7 : bnF 0 w < 72057594037927936) : cdW l = cdW w ↔ l = w := by
  constructor
  · intro h
    have e := cd_1 w 0 hw h7
    by_cases q : bnF 0 l < 72057594037927936
    · have e2 := cd_1 l 0 hl q
      have : (bnF 0 l : Int) = (bnF 0 w : Int) := e2.symm.trans (h.trans e)
      exact bn_inj l w hl hw (by omega)
    · have e2 := cd_2 l 0 hl (by decide) (by omega)
      have : (1152921504606846976 : Int) = (bnF 0 w : Int) := e2.symm.trans (h.trans e)
      omega
  · rintro rfl; rfl
/-- the words of the language, as both have them -/
def wrds : List (List Int) := [
  [112, 114, 101, 115, 115, 101, 115],
  [115, 99, 111, 114, 99, 104, 101, 115],
  [112, 114, 105, 99, 101],
  [112, 101, 114, 115, 111, 110],
  [99, 114, 101, 97, 115, 101],
  [116, 105, 101],
  [112, 114, 101, 115, 115],
  [112, 97, 116, 116, 101, 114, 110],
  [100, 97, 109, 112],
  [104, 101, 97, 116],
  [104, 111, 117, 114],
  [119, 104, 111],
  [115, 107, 105, 110],
  [121, 101, 97, 114],
  [100, 101, 112, 116, 104],
  [119, 111, 114, 116, 104],
  [99, 111, 105, 110, 115],
  [116, 105, 101, 115],
  [116, 111],
  [116, 117, 114, 110, 101, 100],
  [100, 101, 101, 112],
  [105, 102],
  [116, 104, 101, 110],
  [101, 108, 115, 101],
  [101, 110, 100],
  [110, 111, 116],
  [97, 110, 100],
  [111, 114]]
def wfl : List (List Int) → List Int
  | [] => []
  | w :: r => w ++ 32 :: wfl r
theorem ch_w : (List.range 150).all (fun i => decide (chC (i : Int) = (wfl wrds).getD i 0)) = true := by decide +kernel
theorem wfl_n : (wfl wrds).length = 150 := by decide +kernel
/-- the letters from s on -/
def ls (B : Int → Int) : Int → Nat → List Int
  | _, 0 => []
  | s, k + 1 => B s :: ls B (s + 1) k
/-- which word -/
def kWs (l : List Int) : List (List Int) → Int → Int
  | [], _ => 1
  | w :: r, k => if l = w then k else kWs l r (k + 1)
def kW (l : List Int) : Int := kWs l wrds 16
