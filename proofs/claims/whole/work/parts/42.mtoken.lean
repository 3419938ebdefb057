def bta (M : Me) (i : Int) : Int := if i < M 429 4 then M 433 i else -1
def sgn (v : Int) : Prop := v = 35 ∨ (40 ≤ v ∧ v ≤ 43) ∨ v = 45 ∨ v = 47 ∨ (58 ≤ v ∧ v ≤ 62)
def rnk (v : Int) : Int := if 40 ≤ v then 0 else if v = 22 then 1 else if v = 21 then 2 else if v = 20 then 3 else if 10 ≤ v then 4 else if v = 5 ∨ v = 2 ∨ v = 3 then 7 else if 8 ≤ v then 6 else 5
theorem rnk_b {v : Int} : 0 ≤ rnk v ∧ rnk v ≤ 7 := by unfold rnk; (repeat' split) <;> decide
def cmO (v : Int) : Int := if v = 60 then 10 else if v = 4 then 11 else if v = 62 then 12 else if v = 5 then 13 else if v = 61 then 14 else if v = 35 then 15 else -1
def emA (M : Me) (k v : Int) : Me := up (up (up M 432 (M 429 12 + 97 + 2 * M 429 13) k) 432 (M 429 12 + 97 + 2 * M 429 13 + 1) v) 429 13 (M 429 13 + 1)
/-- the newest open one among the first i of the pile -/
def oaS (M : Me) : Nat → Int
  | 0 => -1
  | i + 1 => if 40 ≤ M 434 i then (i : Int) else oaS M i
theorem oaS_t {M : Me} {i : Nat} (h : 40 ≤ M 434 i) : oaS M (i + 1) = (i : Int) := if_pos h
theorem oaS_f {M : Me} {i : Nat} (h : ¬ 40 ≤ M 434 i) : oaS M (i + 1) = oaS M i := if_neg h
theorem oaS_b {M : Me} : ∀ i : Nat, -1 ≤ oaS M i ∧ oaS M i < i := by
  intro i
  induction i with
  | zero => exact (show (-1 : Int) ≤ -1 ∧ (-1 : Int) < ((0 : Nat) : Int) by omega)
  | succ i ih => unfold oaS; split <;> omega
def opn (M : Me) (n : Nat) : Int := if oaS M n < 0 then -1 else M 434 (oaS M n)
theorem c_byteAt {x y z : Int} {M : Me} {i : Int} (hi : 0 ≤ i) (h4 : M 429 4 ≤ 300) : Con kX11_byteAt 0 0 0 [(1, 429), (0, i)] (Sf x y z) M (Ex (some (0, bta M i)) (Sf x y z) M) := by
  refine Con.ofV (al := [(1, 429), (0, i)]) 0 (by decide) (Nat.le_of_ble_eq_true rfl) rfl ?_
  refine r_iload_n dX11_byteAt_0 rfl ?_
  refine r_aload_n dX11_byteAt_1 rfl (by decide) ?_
  refine r_gi 4 dX11_byteAt_2 flX11_88 sf429 (by decide) (by decide) rfl rfl (by first | assumption | ((repeat (first | (apply rd_ne; · omega) | (apply rd_eq; · omega) | (apply rd_out; · omega) | (apply rd_in; · omega))); first | assumption | rfl)) ?_
  refine r_icmp_ge (tgt := 17) dX11_byteAt_5 (by decide) (fun h5 => ?_) (fun h5 => ?_)
  · refine r_iconst dX11_byteAt_17 (by decide) ?_
    refine r_iret dX11_byteAt_18 rfl ?_
    refine ⟨?_, rfl, rfl⟩; unfold bta; (repeat' split) <;> first | rfl | (exfalso; omega)
  · refine r_aload_n dX11_byteAt_8 rfl (by decide) ?_
    refine r_getr (x := 433) dX11_byteAt_9 flX11_19 sf429 (by decide) (by decide) rfl rfl ?_
    refine r_iload_n dX11_byteAt_12 rfl ?_
    refine r_iald dX11_byteAt_13 sf433 (by decide) (by omega) (by omega) (by decide) (by first | assumption | ((repeat (first | (apply rd_ne; · omega) | (apply rd_eq; · omega) | (apply rd_out; · omega) | (apply rd_in; · omega))); first | assumption | rfl)) ?_
    refine r_goto (tgt := 18) dX11_byteAt_14 (by decide) ?_
    refine r_iret dX11_byteAt_18 rfl ?_
    refine ⟨?_, rfl, rfl⟩; unfold bta; (repeat' split) <;> first | rfl | (exfalso; omega)
theorem c_isFigure {S : Sh} {M : Me} {v : Int} : Con kX11_isFigure 0 0 0 [(0, v)] S M (Ex (some (0, bi (48 ≤ v ∧ v ≤ 57))) S M) := by
  refine Con.ofV (al := [(0, v)]) 0 (by decide) (Nat.le_of_ble_eq_true rfl) rfl ?_
  refine r_iload_n dX11_isFigure_0 rfl ?_
  refine r_bipush dX11_isFigure_1 (by decide) (by decide) ?_
  refine r_icmp_lt (tgt := 16) dX11_isFigure_3 (by decide) (fun h3 => ?_) (fun h3 => ?_)
  · refine r_iconst dX11_isFigure_16 (by decide) ?_
    refine r_zret dX11_isFigure_17 rfl (by omega) ?_
    refine ⟨?_, rfl, rfl⟩; unfold bi; (repeat' split) <;> first | rfl | (exfalso; omega)
  · refine r_iload_n dX11_isFigure_6 rfl ?_
    refine r_bipush dX11_isFigure_7 (by decide) (by decide) ?_
    refine r_icmp_gt (tgt := 16) dX11_isFigure_9 (by decide) (fun h9 => ?_) (fun h9 => ?_)
    · refine r_iconst dX11_isFigure_16 (by decide) ?_
      refine r_zret dX11_isFigure_17 rfl (by omega) ?_
      refine ⟨?_, rfl, rfl⟩; unfold bi; (repeat' split) <;> first | rfl | (exfalso; omega)
    · refine r_iconst dX11_isFigure_12 (by decide) ?_
      refine r_goto (tgt := 17) dX11_isFigure_13 (by decide) ?_
      refine r_zret dX11_isFigure_17 rfl (by omega) ?_
      refine ⟨?_, rfl, rfl⟩; unfold bi; (repeat' split) <;> first | rfl | (exfalso; omega)
theorem c_isLetter {S : Sh} {M : Me} {v : Int} : Con kX11_isLetterByte 0 0 0 [(0, v)] S M (Ex (some (0, bi (97 ≤ v ∧ v ≤ 122 ∨ 65 ≤ v ∧ v ≤ 90))) S M) := by
  refine Con.ofV (al := [(0, v)]) 0 (by decide) (Nat.le_of_ble_eq_true rfl) rfl ?_
  refine r_iload_n dX11_isLetterByte_0 rfl ?_
  refine r_bipush dX11_isLetterByte_1 (by decide) (by decide) ?_
  refine r_icmp_lt (tgt := 12) dX11_isLetterByte_3 (by decide) (fun h3 => ?_) (fun h3 => ?_)
  · refine r_iload_n dX11_isLetterByte_12 rfl ?_
    refine r_bipush dX11_isLetterByte_13 (by decide) (by decide) ?_
    refine r_icmp_lt (tgt := 28) dX11_isLetterByte_15 (by decide) (fun h15 => ?_) (fun h15 => ?_)
    · refine r_iconst dX11_isLetterByte_28 (by decide) ?_
      refine r_zret dX11_isLetterByte_29 rfl (by omega) ?_
      refine ⟨?_, rfl, rfl⟩; unfold bi; (repeat' split) <;> first | rfl | (exfalso; omega)
    · refine r_iload_n dX11_isLetterByte_18 rfl ?_
      refine r_bipush dX11_isLetterByte_19 (by decide) (by decide) ?_
      refine r_icmp_gt (tgt := 28) dX11_isLetterByte_21 (by decide) (fun h21 => ?_) (fun h21 => ?_)
      · refine r_iconst dX11_isLetterByte_28 (by decide) ?_
        refine r_zret dX11_isLetterByte_29 rfl (by omega) ?_
        refine ⟨?_, rfl, rfl⟩; unfold bi; (repeat' split) <;> first | rfl | (exfalso; omega)
      · refine r_iconst dX11_isLetterByte_24 (by decide) ?_
        refine r_goto (tgt := 29) dX11_isLetterByte_25 (by decide) ?_
        refine r_zret dX11_isLetterByte_29 rfl (by omega) ?_
        refine ⟨?_, rfl, rfl⟩; unfold bi; (repeat' split) <;> first | rfl | (exfalso; omega)
  · refine r_iload_n dX11_isLetterByte_6 rfl ?_
    refine r_bipush dX11_isLetterByte_7 (by decide) (by decide) ?_
    refine r_icmp_le (tgt := 24) dX11_isLetterByte_9 (by decide) (fun h9 => ?_) (fun h9 => ?_)
    · refine r_iconst dX11_isLetterByte_24 (by decide) ?_
      refine r_goto (tgt := 29) dX11_isLetterByte_25 (by decide) ?_
      refine r_zret dX11_isLetterByte_29 rfl (by omega) ?_
      refine ⟨?_, rfl, rfl⟩; unfold bi; (repeat' split) <;> first | rfl | (exfalso; omega)
    · refine r_iload_n dX11_isLetterByte_12 rfl ?_
      refine r_bipush dX11_isLetterByte_13 (by decide) (by decide) ?_
      refine r_icmp_lt (tgt := 28) dX11_isLetterByte_15 (by decide) (fun h15 => ?_) (fun h15 => ?_)
      · refine r_iconst dX11_isLetterByte_28 (by decide) ?_
        refine r_zret dX11_isLetterByte_29 rfl (by omega) ?_
        refine ⟨?_, rfl, rfl⟩; unfold bi; (repeat' split) <;> first | rfl | (exfalso; omega)
      · refine r_iload_n dX11_isLetterByte_18 rfl ?_
        refine r_bipush dX11_isLetterByte_19 (by decide) (by decide) ?_
        refine r_icmp_gt (tgt := 28) dX11_isLetterByte_21 (by decide) (fun h21 => ?_) (fun h21 => ?_)
        · refine r_iconst dX11_isLetterByte_28 (by decide) ?_
          refine r_zret dX11_isLetterByte_29 rfl (by omega) ?_
          refine ⟨?_, rfl, rfl⟩; unfold bi; (repeat' split) <;> first | rfl | (exfalso; omega)
        · refine r_iconst dX11_isLetterByte_24 (by decide) ?_
          refine r_goto (tgt := 29) dX11_isLetterByte_25 (by decide) ?_
          refine r_zret dX11_isLetterByte_29 rfl (by omega) ?_
          refine ⟨?_, rfl, rfl⟩; unfold bi; (repeat' split) <;> first | rfl | (exfalso; omega)
theorem c_isSign {S : Sh} {M : Me} {v : Int} : Con kX11_isSign 0 0 0 [(0, v)] S M (Ex (some (0, bi (v = 35 ∨ (40 ≤ v ∧ v ≤ 43) ∨ v = 45 ∨ v = 47 ∨ (58 ≤ v ∧ v ≤ 62)))) S M) := by
  refine Con.ofV (al := [(0, v)]) 0 (by decide) (Nat.le_of_ble_eq_true rfl) rfl ?_
  refine r_iload_n dX11_isSign_0 rfl ?_
  rcases (show (v < 35 ∨ 62 < v) ∨ v = 35 ∨ v = 36 ∨ v = 37 ∨ v = 38 ∨ v = 39 ∨ v = 40 ∨ v = 41 ∨ v = 42 ∨ v = 43 ∨ v = 44 ∨ v = 45 ∨ v = 46 ∨ v = 47 ∨ v = 48 ∨ v = 49 ∨ v = 50 ∨ v = 51 ∨ v = 52 ∨ v = 53 ∨ v = 54 ∨ v = 55 ∨ v = 56 ∨ v = 57 ∨ v = 58 ∨ v = 59 ∨ v = 60 ∨ v = 61 ∨ v = 62 by omega) with hsw | hsw | hsw | hsw | hsw | hsw | hsw | hsw | hsw | hsw | hsw | hsw | hsw | hsw | hsw | hsw | hsw | hsw | hsw | hsw | hsw | hsw | hsw | hsw | hsw | hsw | hsw | hsw | hsw
  · refine r_tabOut (tgt := 130) dX11_isSign_1 hsw (by decide) ?_
    refine r_iconst dX11_isSign_130 (by decide) ?_
    refine r_zret dX11_isSign_131 rfl (by omega) ?_
    refine ⟨?_, rfl, rfl⟩; unfold bi; (repeat' split) <;> first | rfl | (exfalso; omega)
  · refine r_tabEq (tgt := 128) dX11_isSign_1 hsw (by decide) (by decide) rfl (by decide) ?_
    refine r_iconst dX11_isSign_128 (by decide) ?_
    refine r_zret dX11_isSign_129 rfl (by omega) ?_
    refine ⟨?_, rfl, rfl⟩; unfold bi; (repeat' split) <;> first | rfl | (exfalso; omega)
  · refine r_tabEq (tgt := 130) dX11_isSign_1 hsw (by decide) (by decide) rfl (by decide) ?_
    refine r_iconst dX11_isSign_130 (by decide) ?_
    refine r_zret dX11_isSign_131 rfl (by omega) ?_
    refine ⟨?_, rfl, rfl⟩; unfold bi; (repeat' split) <;> first | rfl | (exfalso; omega)
  · refine r_tabEq (tgt := 130) dX11_isSign_1 hsw (by decide) (by decide) rfl (by decide) ?_
    refine r_iconst dX11_isSign_130 (by decide) ?_
    refine r_zret dX11_isSign_131 rfl (by omega) ?_
    refine ⟨?_, rfl, rfl⟩; unfold bi; (repeat' split) <;> first | rfl | (exfalso; omega)
  · refine r_tabEq (tgt := 130) dX11_isSign_1 hsw (by decide) (by decide) rfl (by decide) ?_
    refine r_iconst dX11_isSign_130 (by decide) ?_
    refine r_zret dX11_isSign_131 rfl (by omega) ?_
    refine ⟨?_, rfl, rfl⟩; unfold bi; (repeat' split) <;> first | rfl | (exfalso; omega)
  · refine r_tabEq (tgt := 130) dX11_isSign_1 hsw (by decide) (by decide) rfl (by decide) ?_
    refine r_iconst dX11_isSign_130 (by decide) ?_
    refine r_zret dX11_isSign_131 rfl (by omega) ?_
    refine ⟨?_, rfl, rfl⟩; unfold bi; (repeat' split) <;> first | rfl | (exfalso; omega)
  · refine r_tabEq (tgt := 128) dX11_isSign_1 hsw (by decide) (by decide) rfl (by decide) ?_
    refine r_iconst dX11_isSign_128 (by decide) ?_
    refine r_zret dX11_isSign_129 rfl (by omega) ?_
    refine ⟨?_, rfl, rfl⟩; unfold bi; (repeat' split) <;> first | rfl | (exfalso; omega)
  · refine r_tabEq (tgt := 128) dX11_isSign_1 hsw (by decide) (by decide) rfl (by decide) ?_
    refine r_iconst dX11_isSign_128 (by decide) ?_
    refine r_zret dX11_isSign_129 rfl (by omega) ?_
    refine ⟨?_, rfl, rfl⟩; unfold bi; (repeat' split) <;> first | rfl | (exfalso; omega)
  · refine r_tabEq (tgt := 128) dX11_isSign_1 hsw (by decide) (by decide) rfl (by decide) ?_
    refine r_iconst dX11_isSign_128 (by decide) ?_
    refine r_zret dX11_isSign_129 rfl (by omega) ?_
    refine ⟨?_, rfl, rfl⟩; unfold bi; (repeat' split) <;> first | rfl | (exfalso; omega)
  · refine r_tabEq (tgt := 128) dX11_isSign_1 hsw (by decide) (by decide) rfl (by decide) ?_
    refine r_iconst dX11_isSign_128 (by decide) ?_
    refine r_zret dX11_isSign_129 rfl (by omega) ?_
    refine ⟨?_, rfl, rfl⟩; unfold bi; (repeat' split) <;> first | rfl | (exfalso; omega)
  · refine r_tabEq (tgt := 130) dX11_isSign_1 hsw (by decide) (by decide) rfl (by decide) ?_
    refine r_iconst dX11_isSign_130 (by decide) ?_
    refine r_zret dX11_isSign_131 rfl (by omega) ?_
    refine ⟨?_, rfl, rfl⟩; unfold bi; (repeat' split) <;> first | rfl | (exfalso; omega)
  · refine r_tabEq (tgt := 128) dX11_isSign_1 hsw (by decide) (by decide) rfl (by decide) ?_
    refine r_iconst dX11_isSign_128 (by decide) ?_
    refine r_zret dX11_isSign_129 rfl (by omega) ?_
    refine ⟨?_, rfl, rfl⟩; unfold bi; (repeat' split) <;> first | rfl | (exfalso; omega)
  · refine r_tabEq (tgt := 130) dX11_isSign_1 hsw (by decide) (by decide) rfl (by decide) ?_
    refine r_iconst dX11_isSign_130 (by decide) ?_
    refine r_zret dX11_isSign_131 rfl (by omega) ?_
    refine ⟨?_, rfl, rfl⟩; unfold bi; (repeat' split) <;> first | rfl | (exfalso; omega)
  · refine r_tabEq (tgt := 128) dX11_isSign_1 hsw (by decide) (by decide) rfl (by decide) ?_
    refine r_iconst dX11_isSign_128 (by decide) ?_
    refine r_zret dX11_isSign_129 rfl (by omega) ?_
    refine ⟨?_, rfl, rfl⟩; unfold bi; (repeat' split) <;> first | rfl | (exfalso; omega)
  · refine r_tabEq (tgt := 130) dX11_isSign_1 hsw (by decide) (by decide) rfl (by decide) ?_
    refine r_iconst dX11_isSign_130 (by decide) ?_
    refine r_zret dX11_isSign_131 rfl (by omega) ?_
    refine ⟨?_, rfl, rfl⟩; unfold bi; (repeat' split) <;> first | rfl | (exfalso; omega)
  · refine r_tabEq (tgt := 130) dX11_isSign_1 hsw (by decide) (by decide) rfl (by decide) ?_
    refine r_iconst dX11_isSign_130 (by decide) ?_
    refine r_zret dX11_isSign_131 rfl (by omega) ?_
    refine ⟨?_, rfl, rfl⟩; unfold bi; (repeat' split) <;> first | rfl | (exfalso; omega)
  · refine r_tabEq (tgt := 130) dX11_isSign_1 hsw (by decide) (by decide) rfl (by decide) ?_
    refine r_iconst dX11_isSign_130 (by decide) ?_
    refine r_zret dX11_isSign_131 rfl (by omega) ?_
    refine ⟨?_, rfl, rfl⟩; unfold bi; (repeat' split) <;> first | rfl | (exfalso; omega)
  · refine r_tabEq (tgt := 130) dX11_isSign_1 hsw (by decide) (by decide) rfl (by decide) ?_
    refine r_iconst dX11_isSign_130 (by decide) ?_
    refine r_zret dX11_isSign_131 rfl (by omega) ?_
    refine ⟨?_, rfl, rfl⟩; unfold bi; (repeat' split) <;> first | rfl | (exfalso; omega)
  · refine r_tabEq (tgt := 130) dX11_isSign_1 hsw (by decide) (by decide) rfl (by decide) ?_
    refine r_iconst dX11_isSign_130 (by decide) ?_
    refine r_zret dX11_isSign_131 rfl (by omega) ?_
    refine ⟨?_, rfl, rfl⟩; unfold bi; (repeat' split) <;> first | rfl | (exfalso; omega)
  · refine r_tabEq (tgt := 130) dX11_isSign_1 hsw (by decide) (by decide) rfl (by decide) ?_
    refine r_iconst dX11_isSign_130 (by decide) ?_
    refine r_zret dX11_isSign_131 rfl (by omega) ?_
    refine ⟨?_, rfl, rfl⟩; unfold bi; (repeat' split) <;> first | rfl | (exfalso; omega)
  · refine r_tabEq (tgt := 130) dX11_isSign_1 hsw (by decide) (by decide) rfl (by decide) ?_
    refine r_iconst dX11_isSign_130 (by decide) ?_
    refine r_zret dX11_isSign_131 rfl (by omega) ?_
    refine ⟨?_, rfl, rfl⟩; unfold bi; (repeat' split) <;> first | rfl | (exfalso; omega)
  · refine r_tabEq (tgt := 130) dX11_isSign_1 hsw (by decide) (by decide) rfl (by decide) ?_
    refine r_iconst dX11_isSign_130 (by decide) ?_
    refine r_zret dX11_isSign_131 rfl (by omega) ?_
    refine ⟨?_, rfl, rfl⟩; unfold bi; (repeat' split) <;> first | rfl | (exfalso; omega)
  · refine r_tabEq (tgt := 130) dX11_isSign_1 hsw (by decide) (by decide) rfl (by decide) ?_
    refine r_iconst dX11_isSign_130 (by decide) ?_
    refine r_zret dX11_isSign_131 rfl (by omega) ?_
    refine ⟨?_, rfl, rfl⟩; unfold bi; (repeat' split) <;> first | rfl | (exfalso; omega)
  · refine r_tabEq (tgt := 130) dX11_isSign_1 hsw (by decide) (by decide) rfl (by decide) ?_
    refine r_iconst dX11_isSign_130 (by decide) ?_
    refine r_zret dX11_isSign_131 rfl (by omega) ?_
    refine ⟨?_, rfl, rfl⟩; unfold bi; (repeat' split) <;> first | rfl | (exfalso; omega)
  · refine r_tabEq (tgt := 128) dX11_isSign_1 hsw (by decide) (by decide) rfl (by decide) ?_
    refine r_iconst dX11_isSign_128 (by decide) ?_
    refine r_zret dX11_isSign_129 rfl (by omega) ?_
    refine ⟨?_, rfl, rfl⟩; unfold bi; (repeat' split) <;> first | rfl | (exfalso; omega)
  · refine r_tabEq (tgt := 128) dX11_isSign_1 hsw (by decide) (by decide) rfl (by decide) ?_
    refine r_iconst dX11_isSign_128 (by decide) ?_
    refine r_zret dX11_isSign_129 rfl (by omega) ?_
    refine ⟨?_, rfl, rfl⟩; unfold bi; (repeat' split) <;> first | rfl | (exfalso; omega)
  · refine r_tabEq (tgt := 128) dX11_isSign_1 hsw (by decide) (by decide) rfl (by decide) ?_
    refine r_iconst dX11_isSign_128 (by decide) ?_
    refine r_zret dX11_isSign_129 rfl (by omega) ?_
    refine ⟨?_, rfl, rfl⟩; unfold bi; (repeat' split) <;> first | rfl | (exfalso; omega)
  · refine r_tabEq (tgt := 128) dX11_isSign_1 hsw (by decide) (by decide) rfl (by decide) ?_
    refine r_iconst dX11_isSign_128 (by decide) ?_
    refine r_zret dX11_isSign_129 rfl (by omega) ?_
    refine ⟨?_, rfl, rfl⟩; unfold bi; (repeat' split) <;> first | rfl | (exfalso; omega)
  · refine r_tabEq (tgt := 128) dX11_isSign_1 hsw (by decide) (by decide) rfl (by decide) ?_
    refine r_iconst dX11_isSign_128 (by decide) ?_
    refine r_zret dX11_isSign_129 rfl (by omega) ?_
    refine ⟨?_, rfl, rfl⟩; unfold bi; (repeat' split) <;> first | rfl | (exfalso; omega)
theorem c_rank {S : Sh} {M : Me} {v : Int} : Con kX11_rank 0 0 0 [(0, v)] S M (Ex (some (0, rnk v)) S M) := by
  refine Con.ofV (al := [(0, v)]) 0 (by decide) (Nat.le_of_ble_eq_true rfl) rfl ?_
  refine r_iload_n dX11_rank_0 rfl ?_
  refine r_bipush dX11_rank_1 (by decide) (by decide) ?_
  refine r_icmp_lt (tgt := 10) dX11_rank_3 (by decide) (fun h3 => ?_) (fun h3 => ?_)
  · refine r_iload_n dX11_rank_10 rfl ?_
    refine r_bipush dX11_rank_11 (by decide) (by decide) ?_
    refine r_icmp_ne (tgt := 20) dX11_rank_13 (by decide) (fun h13 => ?_) (fun h13 => ?_)
    · refine r_iload_n dX11_rank_20 rfl ?_
      refine r_bipush dX11_rank_21 (by decide) (by decide) ?_
      refine r_icmp_ne (tgt := 30) dX11_rank_23 (by decide) (fun h23 => ?_) (fun h23 => ?_)
      · refine r_iload_n dX11_rank_30 rfl ?_
        refine r_bipush dX11_rank_31 (by decide) (by decide) ?_
        refine r_icmp_ne (tgt := 40) dX11_rank_33 (by decide) (fun h33 => ?_) (fun h33 => ?_)
        · refine r_iload_n dX11_rank_40 rfl ?_
          refine r_bipush dX11_rank_41 (by decide) (by decide) ?_
          refine r_icmp_lt (tgt := 50) dX11_rank_43 (by decide) (fun h43 => ?_) (fun h43 => ?_)
          · refine r_iload_n dX11_rank_50 rfl ?_
            refine r_iconst dX11_rank_51 (by decide) ?_
            refine r_icmp_eq (tgt := 65) dX11_rank_52 (by decide) (fun h52 => ?_) (fun h52 => ?_)
            · refine r_bipush dX11_rank_65 (by decide) (by decide) ?_
              refine r_goto (tgt := 82) dX11_rank_67 (by decide) ?_
              refine r_iret dX11_rank_82 rfl ?_
              refine ⟨?_, rfl, rfl⟩; unfold rnk; (repeat' split) <;> first | rfl | (exfalso; omega)
            · refine r_iload_n dX11_rank_55 rfl ?_
              refine r_iconst dX11_rank_56 (by decide) ?_
              refine r_icmp_eq (tgt := 65) dX11_rank_57 (by decide) (fun h57 => ?_) (fun h57 => ?_)
              · refine r_bipush dX11_rank_65 (by decide) (by decide) ?_
                refine r_goto (tgt := 82) dX11_rank_67 (by decide) ?_
                refine r_iret dX11_rank_82 rfl ?_
                refine ⟨?_, rfl, rfl⟩; unfold rnk; (repeat' split) <;> first | rfl | (exfalso; omega)
              · refine r_iload_n dX11_rank_60 rfl ?_
                refine r_iconst dX11_rank_61 (by decide) ?_
                refine r_icmp_ne (tgt := 70) dX11_rank_62 (by decide) (fun h62 => ?_) (fun h62 => ?_)
                · refine r_iload_n dX11_rank_70 rfl ?_
                  refine r_bipush dX11_rank_71 (by decide) (by decide) ?_
                  refine r_icmp_lt (tgt := 81) dX11_rank_73 (by decide) (fun h73 => ?_) (fun h73 => ?_)
                  · refine r_iconst dX11_rank_81 (by decide) ?_
                    refine r_iret dX11_rank_82 rfl ?_
                    refine ⟨?_, rfl, rfl⟩; unfold rnk; (repeat' split) <;> first | rfl | (exfalso; omega)
                  · refine r_bipush dX11_rank_76 (by decide) (by decide) ?_
                    refine r_goto (tgt := 82) dX11_rank_78 (by decide) ?_
                    refine r_iret dX11_rank_82 rfl ?_
                    refine ⟨?_, rfl, rfl⟩; unfold rnk; (repeat' split) <;> first | rfl | (exfalso; omega)
                · refine r_bipush dX11_rank_65 (by decide) (by decide) ?_
                  refine r_goto (tgt := 82) dX11_rank_67 (by decide) ?_
                  refine r_iret dX11_rank_82 rfl ?_
                  refine ⟨?_, rfl, rfl⟩; unfold rnk; (repeat' split) <;> first | rfl | (exfalso; omega)
          · refine r_iconst dX11_rank_46 (by decide) ?_
            refine r_goto (tgt := 82) dX11_rank_47 (by decide) ?_
            refine r_iret dX11_rank_82 rfl ?_
            refine ⟨?_, rfl, rfl⟩; unfold rnk; (repeat' split) <;> first | rfl | (exfalso; omega)
        · refine r_iconst dX11_rank_36 (by decide) ?_
          refine r_goto (tgt := 82) dX11_rank_37 (by decide) ?_
          refine r_iret dX11_rank_82 rfl ?_
          refine ⟨?_, rfl, rfl⟩; unfold rnk; (repeat' split) <;> first | rfl | (exfalso; omega)
      · refine r_iconst dX11_rank_26 (by decide) ?_
        refine r_goto (tgt := 82) dX11_rank_27 (by decide) ?_
        refine r_iret dX11_rank_82 rfl ?_
        refine ⟨?_, rfl, rfl⟩; unfold rnk; (repeat' split) <;> first | rfl | (exfalso; omega)
    · refine r_iconst dX11_rank_16 (by decide) ?_
      refine r_goto (tgt := 82) dX11_rank_17 (by decide) ?_
      refine r_iret dX11_rank_82 rfl ?_
      refine ⟨?_, rfl, rfl⟩; unfold rnk; (repeat' split) <;> first | rfl | (exfalso; omega)
  · refine r_iconst dX11_rank_6 (by decide) ?_
    refine r_goto (tgt := 82) dX11_rank_7 (by decide) ?_
    refine r_iret dX11_rank_82 rfl ?_
    refine ⟨?_, rfl, rfl⟩; unfold rnk; (repeat' split) <;> first | rfl | (exfalso; omega)
theorem c_emit {x y z : Int} {M : Me} {k v : Int} (h12 : 0 ≤ M 429 12 ∧ M 429 12 ≤ 2115) (h13 : 0 ≤ M 429 13 ∧ M 429 13 < 304) : Con kX11_emit 0 0 0 [(1, 429), (0, k), (0, v)] (Sf x y z) M (Ex none (Sf x y z) (emA M k v)) := by
  refine Con.ofV (al := [(1, 429), (0, k), (0, v)]) 0 (by decide) (Nat.le_of_ble_eq_true rfl) rfl ?_
  refine r_aload_n dX11_emit_0 rfl (by decide) ?_
  refine r_getr (x := 432) dX11_emit_1 flX11_16 sf429 (by decide) (by decide) rfl rfl ?_
  refine r_aload_n dX11_emit_4 rfl (by decide) ?_
  refine r_gi 12 dX11_emit_5 flX11_143 sf429 (by decide) (by decide) rfl rfl (by first | assumption | ((repeat (first | (apply rd_ne; · omega) | (apply rd_eq; · omega) | (apply rd_out; · omega) | (apply rd_in; · omega))); first | assumption | rfl)) ?_
  refine r_bipush dX11_emit_8 (by decide) (by decide) ?_
  refine r_iadd dX11_emit_10 (w32_id (by omega)) ?_
  refine r_iconst dX11_emit_11 (by decide) ?_
  refine r_aload_n dX11_emit_12 rfl (by decide) ?_
  refine r_gi 13 dX11_emit_13 flX11_146 sf429 (by decide) (by decide) rfl rfl (by first | assumption | ((repeat (first | (apply rd_ne; · omega) | (apply rd_eq; · omega) | (apply rd_out; · omega) | (apply rd_in; · omega))); first | assumption | rfl)) ?_
  refine r_imul dX11_emit_16 (w32_id (by omega)) ?_
  refine r_iadd dX11_emit_17 (w32_id (by omega)) ?_
  refine r_iload_n dX11_emit_18 rfl ?_
  refine r_iast dX11_emit_19 sf432 (by decide) (by omega) (by omega) (by decide) rfl ?_
  refine r_aload_n dX11_emit_20 rfl (by decide) ?_
  refine r_getr (x := 432) dX11_emit_21 flX11_16 sf429 (by decide) (by decide) rfl rfl ?_
  refine r_aload_n dX11_emit_24 rfl (by decide) ?_
  refine r_gi 12 dX11_emit_25 flX11_143 sf429 (by decide) (by decide) rfl rfl (by first | assumption | ((repeat (first | (apply rd_ne; · omega) | (apply rd_eq; · omega) | (apply rd_out; · omega) | (apply rd_in; · omega))); first | assumption | rfl)) ?_
  refine r_bipush dX11_emit_28 (by decide) (by decide) ?_
  refine r_iadd dX11_emit_30 (w32_id (by omega)) ?_
  refine r_iconst dX11_emit_31 (by decide) ?_
  refine r_aload_n dX11_emit_32 rfl (by decide) ?_
  refine r_gi 13 dX11_emit_33 flX11_146 sf429 (by decide) (by decide) rfl rfl (by first | assumption | ((repeat (first | (apply rd_ne; · omega) | (apply rd_eq; · omega) | (apply rd_out; · omega) | (apply rd_in; · omega))); first | assumption | rfl)) ?_
  refine r_imul dX11_emit_36 (w32_id (by omega)) ?_
  refine r_iadd dX11_emit_37 (w32_id (by omega)) ?_
  refine r_iconst dX11_emit_38 (by decide) ?_
  refine r_iadd dX11_emit_39 (w32_id (by omega)) ?_
  refine r_iload_n dX11_emit_40 rfl ?_
  refine r_iast dX11_emit_41 sf432 (by decide) (by omega) (by omega) (by decide) rfl ?_
  refine r_aload_n dX11_emit_42 rfl (by decide) ?_
  refine r_dup dX11_emit_43 (Nat.ne_of_beq_eq_false rfl) ?_
  refine r_gi 13 dX11_emit_44 flX11_146 sf429 (by decide) (by decide) rfl rfl (by first | assumption | ((repeat (first | (apply rd_ne; · omega) | (apply rd_eq; · omega) | (apply rd_out; · omega) | (apply rd_in; · omega))); first | assumption | rfl)) ?_
  refine r_iconst dX11_emit_47 (by decide) ?_
  refine r_iadd dX11_emit_48 (w32_id (by omega)) ?_
  refine r_pi 13 dX11_emit_49 fpX11_146 sf429 (by decide) (by decide) rfl rfl ?_
  refine r_ret0 dX11_emit_52 rfl ?_
  exact ⟨rfl, rfl, rfl⟩
theorem c_isWord {x y z : Int} {M : Me} {v : Int} : Con kX11_isWord 0 0 0 [(1, 429), (2, v)] (Sf x y z) M (Ex (some (0, bi (M 429 9 = 2 ∧ M 429 11 = v))) (Sf x y z) M) := by
  refine Con.ofV (al := [(1, 429), (2, v), (9, 0)]) 0 (by decide) (Nat.le_of_ble_eq_true rfl) rfl ?_
  refine r_aload_n dX11_isWord_0 rfl (by decide) ?_
  refine r_gi 9 dX11_isWord_1 flX11_105 sf429 (by decide) (by decide) rfl rfl (by first | assumption | ((repeat (first | (apply rd_ne; · omega) | (apply rd_eq; · omega) | (apply rd_out; · omega) | (apply rd_in; · omega))); first | assumption | rfl)) ?_
  refine r_iconst dX11_isWord_4 (by decide) ?_
  refine r_icmp_ne (tgt := 21) dX11_isWord_5 (by decide) (fun h5 => ?_) (fun h5 => ?_)
  · refine r_iconst dX11_isWord_21 (by decide) ?_
    refine r_zret dX11_isWord_22 rfl (by omega) ?_
    refine ⟨?_, rfl, rfl⟩; unfold bi; (repeat' split) <;> first | rfl | (exfalso; omega)
  · refine r_aload_n dX11_isWord_8 rfl (by decide) ?_
    refine r_gl 11 dX11_isWord_9 flX11_118 sf429 (by decide) (by decide) rfl rfl (by first | assumption | ((repeat (first | (apply rd_ne; · omega) | (apply rd_eq; · omega) | (apply rd_out; · omega) | (apply rd_in; · omega))); first | assumption | rfl)) ?_
    refine r_lload_n dX11_isWord_12 rfl ?_
    refine r_lcmp dX11_isWord_13 ?_
    refine r_if_ne (tgt := 21) dX11_isWord_14 (by decide) (fun h14 => ?_) (fun h14 => ?_)
    · replace h14 := lc_ne.mp h14
      refine r_iconst dX11_isWord_21 (by decide) ?_
      refine r_zret dX11_isWord_22 rfl (by omega) ?_
      refine ⟨?_, rfl, rfl⟩; unfold bi; (repeat' split) <;> first | rfl | (exfalso; omega)
    · replace h14 := lc_eq.mp h14
      refine r_iconst dX11_isWord_17 (by decide) ?_
      refine r_goto (tgt := 22) dX11_isWord_18 (by decide) ?_
      refine r_zret dX11_isWord_22 rfl (by omega) ?_
      refine ⟨?_, rfl, rfl⟩; unfold bi; (repeat' split) <;> first | rfl | (exfalso; omega)
theorem c_compareOf {x y z : Int} {M : Me} : Con kX11_compareOf 0 0 0 [(1, 429)] (Sf x y z) M (Ex (some (0, cmO (M 429 9))) (Sf x y z) M) := by
  refine Con.ofV (al := [(1, 429)]) 0 (by decide) (Nat.le_of_ble_eq_true rfl) rfl ?_
  refine r_aload_n dX11_compareOf_0 rfl (by decide) ?_
  refine r_gi 9 dX11_compareOf_1 flX11_105 sf429 (by decide) (by decide) rfl rfl (by first | assumption | ((repeat (first | (apply rd_ne; · omega) | (apply rd_eq; · omega) | (apply rd_out; · omega) | (apply rd_in; · omega))); first | assumption | rfl)) ?_
  refine r_bipush dX11_compareOf_4 (by decide) (by decide) ?_
  refine r_icmp_ne (tgt := 14) dX11_compareOf_6 (by decide) (fun h6 => ?_) (fun h6 => ?_)
  · refine r_aload_n dX11_compareOf_14 rfl (by decide) ?_
    refine r_gi 9 dX11_compareOf_15 flX11_105 sf429 (by decide) (by decide) rfl rfl (by first | assumption | ((repeat (first | (apply rd_ne; · omega) | (apply rd_eq; · omega) | (apply rd_out; · omega) | (apply rd_in; · omega))); first | assumption | rfl)) ?_
    refine r_iconst dX11_compareOf_18 (by decide) ?_
    refine r_icmp_ne (tgt := 27) dX11_compareOf_19 (by decide) (fun h19 => ?_) (fun h19 => ?_)
    · refine r_aload_n dX11_compareOf_27 rfl (by decide) ?_
      refine r_gi 9 dX11_compareOf_28 flX11_105 sf429 (by decide) (by decide) rfl rfl (by first | assumption | ((repeat (first | (apply rd_ne; · omega) | (apply rd_eq; · omega) | (apply rd_out; · omega) | (apply rd_in; · omega))); first | assumption | rfl)) ?_
      refine r_bipush dX11_compareOf_31 (by decide) (by decide) ?_
      refine r_icmp_ne (tgt := 41) dX11_compareOf_33 (by decide) (fun h33 => ?_) (fun h33 => ?_)
      · refine r_aload_n dX11_compareOf_41 rfl (by decide) ?_
        refine r_gi 9 dX11_compareOf_42 flX11_105 sf429 (by decide) (by decide) rfl rfl (by first | assumption | ((repeat (first | (apply rd_ne; · omega) | (apply rd_eq; · omega) | (apply rd_out; · omega) | (apply rd_in; · omega))); first | assumption | rfl)) ?_
        refine r_iconst dX11_compareOf_45 (by decide) ?_
        refine r_icmp_ne (tgt := 54) dX11_compareOf_46 (by decide) (fun h46 => ?_) (fun h46 => ?_)
        · refine r_aload_n dX11_compareOf_54 rfl (by decide) ?_
          refine r_gi 9 dX11_compareOf_55 flX11_105 sf429 (by decide) (by decide) rfl rfl (by first | assumption | ((repeat (first | (apply rd_ne; · omega) | (apply rd_eq; · omega) | (apply rd_out; · omega) | (apply rd_in; · omega))); first | assumption | rfl)) ?_
          refine r_bipush dX11_compareOf_58 (by decide) (by decide) ?_
          refine r_icmp_ne (tgt := 68) dX11_compareOf_60 (by decide) (fun h60 => ?_) (fun h60 => ?_)
          · refine r_aload_n dX11_compareOf_68 rfl (by decide) ?_
            refine r_gi 9 dX11_compareOf_69 flX11_105 sf429 (by decide) (by decide) rfl rfl (by first | assumption | ((repeat (first | (apply rd_ne; · omega) | (apply rd_eq; · omega) | (apply rd_out; · omega) | (apply rd_in; · omega))); first | assumption | rfl)) ?_
            refine r_bipush dX11_compareOf_72 (by decide) (by decide) ?_
            refine r_icmp_ne (tgt := 82) dX11_compareOf_74 (by decide) (fun h74 => ?_) (fun h74 => ?_)
            · refine r_iconst dX11_compareOf_82 (by decide) ?_
              refine r_iret dX11_compareOf_83 rfl ?_
              refine ⟨?_, rfl, rfl⟩; unfold cmO; (repeat' split) <;> first | rfl | (exfalso; omega)
            · refine r_bipush dX11_compareOf_77 (by decide) (by decide) ?_
              refine r_goto (tgt := 83) dX11_compareOf_79 (by decide) ?_
              refine r_iret dX11_compareOf_83 rfl ?_
              refine ⟨?_, rfl, rfl⟩; unfold cmO; (repeat' split) <;> first | rfl | (exfalso; omega)
          · refine r_bipush dX11_compareOf_63 (by decide) (by decide) ?_
            refine r_goto (tgt := 83) dX11_compareOf_65 (by decide) ?_
            refine r_iret dX11_compareOf_83 rfl ?_
            refine ⟨?_, rfl, rfl⟩; unfold cmO; (repeat' split) <;> first | rfl | (exfalso; omega)
        · refine r_bipush dX11_compareOf_49 (by decide) (by decide) ?_
          refine r_goto (tgt := 83) dX11_compareOf_51 (by decide) ?_
          refine r_iret dX11_compareOf_83 rfl ?_
          refine ⟨?_, rfl, rfl⟩; unfold cmO; (repeat' split) <;> first | rfl | (exfalso; omega)
      · refine r_bipush dX11_compareOf_36 (by decide) (by decide) ?_
        refine r_goto (tgt := 83) dX11_compareOf_38 (by decide) ?_
        refine r_iret dX11_compareOf_83 rfl ?_
        refine ⟨?_, rfl, rfl⟩; unfold cmO; (repeat' split) <;> first | rfl | (exfalso; omega)
    · refine r_bipush dX11_compareOf_22 (by decide) (by decide) ?_
      refine r_goto (tgt := 83) dX11_compareOf_24 (by decide) ?_
      refine r_iret dX11_compareOf_83 rfl ?_
      refine ⟨?_, rfl, rfl⟩; unfold cmO; (repeat' split) <;> first | rfl | (exfalso; omega)
  · refine r_bipush dX11_compareOf_9 (by decide) (by decide) ?_
    refine r_goto (tgt := 83) dX11_compareOf_11 (by decide) ?_
    refine r_iret dX11_compareOf_83 rfl ?_
    refine ⟨?_, rfl, rfl⟩; unfold cmO; (repeat' split) <;> first | rfl | (exfalso; omega)
theorem c_isOf {x y z : Int} {M : Me} {v : Int} : Con kX11_isOf 0 0 0 [(1, 429), (0, v)] (Sf x y z) M (Ex (some (0, bi (v < 7 ∨ (v = 7 ∧ M 429 14 = 2) ∨ (v ≠ 7 ∧ M 429 14 ≠ 0)))) (Sf x y z) M) := by
  refine Con.ofV (al := [(1, 429), (0, v)]) 0 (by decide) (Nat.le_of_ble_eq_true rfl) rfl ?_
  refine r_iload_n dX11_isOf_0 rfl ?_
  refine r_bipush dX11_isOf_1 (by decide) (by decide) ?_
  refine r_icmp_lt (tgt := 30) dX11_isOf_3 (by decide) (fun h3 => ?_) (fun h3 => ?_)
  · refine r_iconst dX11_isOf_30 (by decide) ?_
    refine r_goto (tgt := 35) dX11_isOf_31 (by decide) ?_
    refine r_zret dX11_isOf_35 rfl (by omega) ?_
    refine ⟨?_, rfl, rfl⟩; unfold bi; (repeat' split) <;> first | rfl | (exfalso; omega)
  · refine r_iload_n dX11_isOf_6 rfl ?_
    refine r_bipush dX11_isOf_7 (by decide) (by decide) ?_
    refine r_icmp_ne (tgt := 23) dX11_isOf_9 (by decide) (fun h9 => ?_) (fun h9 => ?_)
    · refine r_aload_n dX11_isOf_23 rfl (by decide) ?_
      refine r_gi 14 dX11_isOf_24 flX11_149 sf429 (by decide) (by decide) rfl rfl (by first | assumption | ((repeat (first | (apply rd_ne; · omega) | (apply rd_eq; · omega) | (apply rd_out; · omega) | (apply rd_in; · omega))); first | assumption | rfl)) ?_
      refine r_if_eq (tgt := 34) dX11_isOf_27 (by decide) (fun h27 => ?_) (fun h27 => ?_)
      · try have h27 := bi_0.mp h27
        refine r_iconst dX11_isOf_34 (by decide) ?_
        refine r_zret dX11_isOf_35 rfl (by omega) ?_
        refine ⟨?_, rfl, rfl⟩; unfold bi; (repeat' split) <;> first | rfl | (exfalso; omega)
      · try have h27 := bi_1.mp h27
        refine r_iconst dX11_isOf_30 (by decide) ?_
        refine r_goto (tgt := 35) dX11_isOf_31 (by decide) ?_
        refine r_zret dX11_isOf_35 rfl (by omega) ?_
        refine ⟨?_, rfl, rfl⟩; unfold bi; (repeat' split) <;> first | rfl | (exfalso; omega)
    · refine r_aload_n dX11_isOf_12 rfl (by decide) ?_
      refine r_gi 14 dX11_isOf_13 flX11_149 sf429 (by decide) (by decide) rfl rfl (by first | assumption | ((repeat (first | (apply rd_ne; · omega) | (apply rd_eq; · omega) | (apply rd_out; · omega) | (apply rd_in; · omega))); first | assumption | rfl)) ?_
      refine r_iconst dX11_isOf_16 (by decide) ?_
      refine r_icmp_ne (tgt := 34) dX11_isOf_17 (by decide) (fun h17 => ?_) (fun h17 => ?_)
      · refine r_iconst dX11_isOf_34 (by decide) ?_
        refine r_zret dX11_isOf_35 rfl (by omega) ?_
        refine ⟨?_, rfl, rfl⟩; unfold bi; (repeat' split) <;> first | rfl | (exfalso; omega)
      · refine r_goto (tgt := 30) dX11_isOf_20 (by decide) ?_
        refine r_iconst dX11_isOf_30 (by decide) ?_
        refine r_goto (tgt := 35) dX11_isOf_31 (by decide) ?_
        refine r_zret dX11_isOf_35 rfl (by omega) ?_
        refine ⟨?_, rfl, rfl⟩; unfold bi; (repeat' split) <;> first | rfl | (exfalso; omega)
theorem l_openAt {x y z : Int} {M : Me} {R : Int} : ∀ i : Nat, i ≤ 160 → oaS M i = R → V kX11_openAt 0 0 0 none (Ex (some (0, R)) (Sf x y z) M) 7 [(1, 429), (0, (i : Int) - 1)] [] (Sf x y z) M 0 0 := by
  intro i
  induction i with
  | zero =>
    intro hi hR
    refine r_iload_n dX11_openAt_7 rfl ?_
    refine r_if_lt (tgt := 28) dX11_openAt_8 (by decide) (fun h8 => ?_) (fun h8 => by exfalso; omega)
    refine r_iload_n dX11_openAt_28 rfl ?_
    refine r_iret dX11_openAt_29 rfl ?_
    exact ⟨by rw [← hR]; rfl, rfl, rfl⟩
  | succ i ih =>
    intro hi hR
    rw [show ((i + 1 : Nat) : Int) - 1 = (i : Int) by omega]
    refine r_iload_n dX11_openAt_7 rfl ?_
    refine r_if_lt (tgt := 28) dX11_openAt_8 (by decide) (fun h8 => by exfalso; omega) (fun h8 => ?_)
    refine r_aload_n dX11_openAt_11 rfl (by decide) ?_
    refine r_getr (x := 434) dX11_openAt_12 flX11_29 sf429 (by decide) (by decide) rfl rfl ?_
    refine r_iload_n dX11_openAt_15 rfl ?_
    refine r_iald dX11_openAt_16 sf434 (by decide) (by omega) (by omega) (by decide) (by first | assumption | ((repeat (first | (apply rd_ne; · omega) | (apply rd_eq; · omega) | (apply rd_out; · omega) | (apply rd_in; · omega))); first | assumption | rfl)) ?_
    refine r_bipush dX11_openAt_17 (by decide) (by decide) ?_
    refine r_icmp_ge (tgt := 28) dX11_openAt_19 (by decide) (fun h19 => ?_) (fun h19 => ?_)
    · refine r_iload_n dX11_openAt_28 rfl ?_
      refine r_iret dX11_openAt_29 rfl ?_
      exact ⟨by rw [← hR, oaS_t (by omega)], rfl, rfl⟩
    · refine r_iinc dX11_openAt_22 rfl rfl (by decide) (w32_id (by omega)) st1 ?_
      refine r_goto (tgt := 7) dX11_openAt_25 (by decide) ?_
      exact ih (by omega) ((oaS_f (by omega)).symm.trans hR)
theorem c_openAt {x y z : Int} {M : Me} {n : Nat} (hn : M 429 16 = (n : Int)) (hn9 : n ≤ 160) : Con kX11_openAt 0 0 0 [(1, 429)] (Sf x y z) M (Ex (some (0, oaS M n)) (Sf x y z) M) := by
  refine Con.ofV (al := [(1, 429), (9, 0)]) 1 (by decide) (Nat.le_of_ble_eq_true rfl) rfl ?_
  refine r_aload_n dX11_openAt_0 rfl (by decide) ?_
  refine r_gi 16 dX11_openAt_1 flX11_152 sf429 (by decide) (by decide) rfl rfl hn ?_
  refine r_iconst dX11_openAt_4 (by decide) ?_
  refine r_isub dX11_openAt_5 (w32_id (by omega)) ?_
  refine r_istore_n dX11_openAt_6 rfl (by decide) st1 ?_
  exact l_openAt n hn9 rfl
theorem c_openNow {x y z : Int} {M : Me} {n : Nat} (hn : M 429 16 = (n : Int)) (hn9 : n ≤ 160) : Con kX11_openNow 1 0 0 [(1, 429)] (Sf x y z) M (Ex (some (0, opn M n)) (Sf x y z) M) := by
  refine Con.ofV (al := [(1, 429)]) 0 (by decide) (Nat.le_of_ble_eq_true rfl) rfl ?_
  have hb := oaS_b (M := M) n
  refine r_aload_n dX11_openNow_0 rfl (by decide) ?_
  refine r_cv0 dX11_openNow_1 clX11_165 sf429 (by decide) (by decide) rfl (by first | decide | omega) (Nat.le_of_ble_eq_true rfl) ((c_openAt hn hn9)) ⟨Nat.zero_le _, Nat.zero_le _⟩ (fun _ => ?_)
  refine r_if_ge (tgt := 11) dX11_openNow_4 (by decide) (fun h4 => ?_) (fun h4 => ?_)
  · refine r_aload_n dX11_openNow_11 rfl (by decide) ?_
    refine r_getr (x := 434) dX11_openNow_12 flX11_29 sf429 (by decide) (by decide) rfl rfl ?_
    refine r_aload_n dX11_openNow_15 rfl (by decide) ?_
    refine r_cv0 dX11_openNow_16 clX11_165 sf429 (by decide) (by decide) rfl (by first | decide | omega) (Nat.le_of_ble_eq_true rfl) ((c_openAt hn hn9)) ⟨Nat.zero_le _, Nat.zero_le _⟩ (fun _ => ?_)
    refine r_iald dX11_openNow_19 sf434 (by decide) (by omega) (by omega) (by decide) (by first | assumption | ((repeat (first | (apply rd_ne; · omega) | (apply rd_eq; · omega) | (apply rd_out; · omega) | (apply rd_in; · omega))); first | assumption | rfl)) ?_
    refine r_iret dX11_openNow_20 rfl ?_
    first | exact ⟨by unfold opn; rw [if_pos (by omega)], rfl, rfl⟩ | exact ⟨by unfold opn; rw [if_neg (by omega)], rfl, rfl⟩
  · refine r_iconst dX11_openNow_7 (by decide) ?_
    refine r_goto (tgt := 20) dX11_openNow_8 (by decide) ?_
    refine r_iret dX11_openNow_20 rfl ?_
    first | exact ⟨by unfold opn; rw [if_pos (by omega)], rfl, rfl⟩ | exact ⟨by unfold opn; rw [if_neg (by omega)], rfl, rfl⟩
