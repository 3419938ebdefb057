theorem ii_System : Cond.initialized "java/lang/System" ∈ gw := (tJ1 18 rfl rfl)
theorem ii_Math : Cond.initialized "java/lang/Math" ∈ gw := (tJ1 13 rfl rfl)
/-- a Moment and its rows lie at m and behind it -/
def MS (S : Sh) (m : Int) : Prop := S[m.toNat]? = some (3, 9, [-1, -1, -1, -1, -1, m + 1, m + 2, m + 3, m + 4]) ∧ S[(m + 1).toNat]? = some (20, 5, []) ∧ S[(m + 2).toNat]? = some (20, 12, []) ∧ S[(m + 3).toNat]? = some (20, 12, []) ∧ S[(m + 4).toNat]? = some (20, 30, []) ∧ 0 ≤ m
def mcp (M : Me) (d s : Int) : Me := cpy (cpy (cpy (cpy (up (up (up (up (up M d 0 (M s 0)) d 1 (M s 1)) d 2 (M s 2)) d 3 (M s 3)) d 4 (M s 4)) (s + 1) 0 (d + 1) 0 5) (s + 2) 0 (d + 2) 0 12) (s + 3) 0 (d + 3) 0 12) (s + 4) 0 (d + 4) 0 30
theorem c_mcopy {S : Sh} {M : Me} {d s : Int} (hd : MS S d) (hs : MS S s) (hne : d + 4 < s ∨ s + 4 < d) : Con kX3_copy 1 0 0 [(1, d), (1, s)] S M (Ex none S (mcp M d s)) := by
  refine Con.ofV (al := [(1, d), (1, s)]) 0 (by decide) (Nat.le_of_ble_eq_true rfl) rfl ?_
  obtain ⟨d0, d1, d2, d3, d4, dp⟩ := hd
  obtain ⟨s0, s1, s2, s3, s4, sp⟩ := hs
  refine r_aload_n dX3_copy_0 rfl (by omega) ?_
  refine r_aload_n dX3_copy_1 rfl (by omega) ?_
  refine r_gi 0 dX3_copy_2 flX3_28 s0 (by decide) (by omega) rfl rfl (by first | assumption | ((repeat (first | (apply rd_ne; · omega) | (apply rd_eq; · omega) | (apply rd_out; · omega) | (apply rd_in; · omega))); first | assumption | rfl)) ?_
  refine r_pi 0 dX3_copy_5 fpX3_28 d0 (by decide) (by omega) rfl rfl ?_
  refine r_aload_n dX3_copy_8 rfl (by omega) ?_
  refine r_aload_n dX3_copy_9 rfl (by omega) ?_
  refine r_gi 1 dX3_copy_10 flX3_9 s0 (by decide) (by omega) rfl rfl (by first | assumption | ((repeat (first | (apply rd_ne; · omega) | (apply rd_eq; · omega) | (apply rd_out; · omega) | (apply rd_in; · omega))); first | assumption | rfl)) ?_
  refine r_pi 1 dX3_copy_13 fpX3_9 d0 (by decide) (by omega) rfl rfl ?_
  refine r_aload_n dX3_copy_16 rfl (by omega) ?_
  refine r_aload_n dX3_copy_17 rfl (by omega) ?_
  refine r_gi 2 dX3_copy_18 flX3_31 s0 (by decide) (by omega) rfl rfl (by first | assumption | ((repeat (first | (apply rd_ne; · omega) | (apply rd_eq; · omega) | (apply rd_out; · omega) | (apply rd_in; · omega))); first | assumption | rfl)) ?_
  refine r_pi 2 dX3_copy_21 fpX3_31 d0 (by decide) (by omega) rfl rfl ?_
  refine r_aload_n dX3_copy_24 rfl (by omega) ?_
  refine r_aload_n dX3_copy_25 rfl (by omega) ?_
  refine r_gi 3 dX3_copy_26 flX3_34 s0 (by decide) (by omega) rfl rfl (by first | assumption | ((repeat (first | (apply rd_ne; · omega) | (apply rd_eq; · omega) | (apply rd_out; · omega) | (apply rd_in; · omega))); first | assumption | rfl)) ?_
  refine r_pi 3 dX3_copy_29 fpX3_34 d0 (by decide) (by omega) rfl rfl ?_
  refine r_aload_n dX3_copy_32 rfl (by omega) ?_
  refine r_aload_n dX3_copy_33 rfl (by omega) ?_
  refine r_gi 4 dX3_copy_34 flX3_37 s0 (by decide) (by omega) rfl rfl (by first | assumption | ((repeat (first | (apply rd_ne; · omega) | (apply rd_eq; · omega) | (apply rd_out; · omega) | (apply rd_in; · omega))); first | assumption | rfl)) ?_
  refine r_pi 4 dX3_copy_37 fpX3_37 d0 (by decide) (by omega) rfl rfl ?_
  refine r_aload_n dX3_copy_40 rfl (by omega) ?_
  refine r_getr (x := s + 1) dX3_copy_41 flX3_15 s0 (by decide) (by omega) rfl rfl ?_
  refine r_iconst dX3_copy_44 (by decide) ?_
  refine r_aload_n dX3_copy_45 rfl (by omega) ?_
  refine r_getr (x := d + 1) dX3_copy_46 flX3_15 d0 (by decide) (by omega) rfl rfl ?_
  refine r_iconst dX3_copy_49 (by decide) ?_
  refine r_iconst dX3_copy_50 (by decide) ?_
  refine r_copy dX3_copy_51 clX3_40 ay_2 ay_1 ii_System (by decide) (Nat.le_of_ble_eq_true rfl) s1 d1 (by omega) (by omega) (by omega) (by omega) (by omega) (by omega) (by omega) (by decide) (by decide) rfl ?_
  refine r_aload_n dX3_copy_54 rfl (by omega) ?_
  refine r_getr (x := s + 2) dX3_copy_55 flX3_19 s0 (by decide) (by omega) rfl rfl ?_
  refine r_iconst dX3_copy_58 (by decide) ?_
  refine r_aload_n dX3_copy_59 rfl (by omega) ?_
  refine r_getr (x := d + 2) dX3_copy_60 flX3_19 d0 (by decide) (by omega) rfl rfl ?_
  refine r_iconst dX3_copy_63 (by decide) ?_
  refine r_bipush dX3_copy_64 (by decide) (by decide) ?_
  refine r_copy dX3_copy_66 clX3_40 ay_2 ay_1 ii_System (by decide) (Nat.le_of_ble_eq_true rfl) s2 d2 (by omega) (by omega) (by omega) (by omega) (by omega) (by omega) (by omega) (by decide) (by decide) rfl ?_
  refine r_aload_n dX3_copy_69 rfl (by omega) ?_
  refine r_getr (x := s + 3) dX3_copy_70 flX3_22 s0 (by decide) (by omega) rfl rfl ?_
  refine r_iconst dX3_copy_73 (by decide) ?_
  refine r_aload_n dX3_copy_74 rfl (by omega) ?_
  refine r_getr (x := d + 3) dX3_copy_75 flX3_22 d0 (by decide) (by omega) rfl rfl ?_
  refine r_iconst dX3_copy_78 (by decide) ?_
  refine r_bipush dX3_copy_79 (by decide) (by decide) ?_
  refine r_copy dX3_copy_81 clX3_40 ay_2 ay_1 ii_System (by decide) (Nat.le_of_ble_eq_true rfl) s3 d3 (by omega) (by omega) (by omega) (by omega) (by omega) (by omega) (by omega) (by decide) (by decide) rfl ?_
  refine r_aload_n dX3_copy_84 rfl (by omega) ?_
  refine r_getr (x := s + 4) dX3_copy_85 flX3_25 s0 (by decide) (by omega) rfl rfl ?_
  refine r_iconst dX3_copy_88 (by decide) ?_
  refine r_aload_n dX3_copy_89 rfl (by omega) ?_
  refine r_getr (x := d + 4) dX3_copy_90 flX3_25 d0 (by decide) (by omega) rfl rfl ?_
  refine r_iconst dX3_copy_93 (by decide) ?_
  refine r_bipush dX3_copy_94 (by decide) (by decide) ?_
  refine r_copy dX3_copy_96 clX3_40 ay_2 ay_1 ii_System (by decide) (Nat.le_of_ble_eq_true rfl) s4 d4 (by omega) (by omega) (by omega) (by omega) (by omega) (by omega) (by omega) (by decide) (by decide) rfl ?_
  refine r_ret0 dX3_copy_99 rfl ?_
  exact ⟨rfl, rfl, rfl⟩
theorem mcp_o {M : Me} {d s a j : Int} (h : ¬ (d ≤ a ∧ a ≤ d + 4)) : mcp M d s a j = M a j := by
  unfold mcp
  rw [cpy_out (by omega), cpy_out (by omega), cpy_out (by omega), cpy_out (by omega), up_ne (by omega), up_ne (by omega), up_ne (by omega), up_ne (by omega), up_ne (by omega)]
theorem mcp_4 {M : Me} {d s a j : Int} (hne : d + 4 < s ∨ s + 4 < d) (ha : a = d + 4) (h : 0 ≤ j ∧ j < 30) : mcp M d s a j = M (s + 4) j := by
  unfold mcp
  rw [cpy_in (by omega), cpy_out (by omega), cpy_out (by omega), cpy_out (by omega), up_ne (by omega), up_ne (by omega), up_ne (by omega), up_ne (by omega), up_ne (by omega), show 0 + (j - 0) = j by omega]
theorem mcp_3 {M : Me} {d s a j : Int} (hne : d + 4 < s ∨ s + 4 < d) (ha : a = d + 3) (h : 0 ≤ j ∧ j < 12) : mcp M d s a j = M (s + 3) j := by
  unfold mcp
  rw [cpy_out (by omega), cpy_in (by omega), cpy_out (by omega), cpy_out (by omega), up_ne (by omega), up_ne (by omega), up_ne (by omega), up_ne (by omega), up_ne (by omega), show 0 + (j - 0) = j by omega]
theorem mcp_2 {M : Me} {d s a j : Int} (hne : d + 4 < s ∨ s + 4 < d) (ha : a = d + 2) (h : 0 ≤ j ∧ j < 12) : mcp M d s a j = M (s + 2) j := by
  unfold mcp
  rw [cpy_out (by omega), cpy_out (by omega), cpy_in (by omega), cpy_out (by omega), up_ne (by omega), up_ne (by omega), up_ne (by omega), up_ne (by omega), up_ne (by omega), show 0 + (j - 0) = j by omega]
theorem mcp_1 {M : Me} {d s a j : Int} (hne : d + 4 < s ∨ s + 4 < d) (ha : a = d + 1) (h : 0 ≤ j ∧ j < 5) : mcp M d s a j = M (s + 1) j := by
  unfold mcp
  rw [cpy_out (by omega), cpy_out (by omega), cpy_out (by omega), cpy_in (by omega), up_ne (by omega), up_ne (by omega), up_ne (by omega), up_ne (by omega), up_ne (by omega), show 0 + (j - 0) = j by omega]
theorem mcp_0 {M : Me} {d s a j : Int} (hne : d + 4 < s ∨ s + 4 < d) (ha : a = d) (h : 0 ≤ j ∧ j < 5) : mcp M d s a j = M s j := by
  subst ha
  unfold mcp
  rw [cpy_out (by omega), cpy_out (by omega), cpy_out (by omega), cpy_out (by omega)]
  rcases (show j = 0 ∨ j = 1 ∨ j = 2 ∨ j = 3 ∨ j = 4 by omega) with q | q | q | q | q <;> subst q
  · rw [up_ne (by omega), up_ne (by omega), up_ne (by omega), up_ne (by omega), up_eq ⟨rfl, rfl⟩]
  · rw [up_ne (by omega), up_ne (by omega), up_ne (by omega), up_eq ⟨rfl, rfl⟩]
  · rw [up_ne (by omega), up_ne (by omega), up_eq ⟨rfl, rfl⟩]
  · rw [up_ne (by omega), up_eq ⟨rfl, rfl⟩]
  · rw [up_eq ⟨rfl, rfl⟩]
set_option maxRecDepth 100000 in
theorem ms_50 {x y z : Int} : MS (Sf x y z) 50 := ⟨rfl, rfl, rfl, rfl, rfl, by decide⟩
set_option maxRecDepth 100000 in
theorem ms_240 {x y z : Int} : MS (Sf x y z) 240 := ⟨rfl, rfl, rfl, rfl, rfl, by decide⟩
set_option maxRecDepth 100000 in
theorem ms_s {x y z k : Int} (h : 0 ≤ k ∧ k < 30) : MS (Sf x y z) (57 + 5 * k) := by
  rcases (show k = 0 ∨ k = 1 ∨ k = 2 ∨ k = 3 ∨ k = 4 ∨ k = 5 ∨ k = 6 ∨ k = 7 ∨ k = 8 ∨ k = 9 ∨ k = 10 ∨ k = 11 ∨ k = 12 ∨ k = 13 ∨ k = 14 ∨ k = 15 ∨ k = 16 ∨ k = 17 ∨ k = 18 ∨ k = 19 ∨ k = 20 ∨ k = 21 ∨ k = 22 ∨ k = 23 ∨ k = 24 ∨ k = 25 ∨ k = 26 ∨ k = 27 ∨ k = 28 ∨ k = 29 by omega) with q | q | q | q | q | q | q | q | q | q | q | q | q | q | q | q | q | q | q | q | q | q | q | q | q | q | q | q | q | q <;> subst q <;> exact ⟨rfl, rfl, rfl, rfl, rfl, by decide⟩
theorem ah_s {k : Int} (h : 0 ≤ k ∧ k < 30) : ([57, 62, 67, 72, 77, 82, 87, 92, 97, 102, 107, 112, 117, 122, 127, 132, 137, 142, 147, 152, 157, 162, 167, 172, 177, 182, 187, 192, 197, 202] : List Int).getD k.toNat (-1) = 57 + 5 * k := by
  rcases (show k = 0 ∨ k = 1 ∨ k = 2 ∨ k = 3 ∨ k = 4 ∨ k = 5 ∨ k = 6 ∨ k = 7 ∨ k = 8 ∨ k = 9 ∨ k = 10 ∨ k = 11 ∨ k = 12 ∨ k = 13 ∨ k = 14 ∨ k = 15 ∨ k = 16 ∨ k = 17 ∨ k = 18 ∨ k = 19 ∨ k = 20 ∨ k = 21 ∨ k = 22 ∨ k = 23 ∨ k = 24 ∨ k = 25 ∨ k = 26 ∨ k = 27 ∨ k = 28 ∨ k = 29 by omega) with q | q | q | q | q | q | q | q | q | q | q | q | q | q | q | q | q | q | q | q | q | q | q | q | q | q | q | q | q | q <;> subst q <;> rfl
set_option maxRecDepth 100000 in
theorem ms_k {x y z k : Int} (h : 0 ≤ k ∧ k < 30) : MS (Sf x y z) (247 + 5 * k) := by
  rcases (show k = 0 ∨ k = 1 ∨ k = 2 ∨ k = 3 ∨ k = 4 ∨ k = 5 ∨ k = 6 ∨ k = 7 ∨ k = 8 ∨ k = 9 ∨ k = 10 ∨ k = 11 ∨ k = 12 ∨ k = 13 ∨ k = 14 ∨ k = 15 ∨ k = 16 ∨ k = 17 ∨ k = 18 ∨ k = 19 ∨ k = 20 ∨ k = 21 ∨ k = 22 ∨ k = 23 ∨ k = 24 ∨ k = 25 ∨ k = 26 ∨ k = 27 ∨ k = 28 ∨ k = 29 by omega) with q | q | q | q | q | q | q | q | q | q | q | q | q | q | q | q | q | q | q | q | q | q | q | q | q | q | q | q | q | q <;> subst q <;> exact ⟨rfl, rfl, rfl, rfl, rfl, by decide⟩
theorem ah_k {k : Int} (h : 0 ≤ k ∧ k < 30) : ([247, 252, 257, 262, 267, 272, 277, 282, 287, 292, 297, 302, 307, 312, 317, 322, 327, 332, 337, 342, 347, 352, 357, 362, 367, 372, 377, 382, 387, 392] : List Int).getD k.toNat (-1) = 247 + 5 * k := by
  rcases (show k = 0 ∨ k = 1 ∨ k = 2 ∨ k = 3 ∨ k = 4 ∨ k = 5 ∨ k = 6 ∨ k = 7 ∨ k = 8 ∨ k = 9 ∨ k = 10 ∨ k = 11 ∨ k = 12 ∨ k = 13 ∨ k = 14 ∨ k = 15 ∨ k = 16 ∨ k = 17 ∨ k = 18 ∨ k = 19 ∨ k = 20 ∨ k = 21 ∨ k = 22 ∨ k = 23 ∨ k = 24 ∨ k = 25 ∨ k = 26 ∨ k = 27 ∨ k = 28 ∨ k = 29 by omega) with q | q | q | q | q | q | q | q | q | q | q | q | q | q | q | q | q | q | q | q | q | q | q | q | q | q | q | q | q | q <;> subst q <;> rfl
/-- where the i-th of the steps that are kept lies -/
def kp_s (M : Me) (i : Int) : Int := 57 + 5 * ((M 55 1 + i) % 30)
theorem c_kept_s {x y z : Int} {M : Me} {i : Int} (hi : 0 ≤ i ∧ i < 100) (h1 : 0 ≤ M 55 1 ∧ M 55 1 < 30) : Con kX7_kept 1 0 0 [(1, 55), (0, i)] (Sf x y z) M (Ex (some (1, kp_s M i)) (Sf x y z) M) := by
  refine Con.ofV (al := [(1, 55), (0, i)]) 0 (by decide) (Nat.le_of_ble_eq_true rfl) rfl ?_
  refine r_aload_n dX7_kept_0 rfl (by decide) ?_
  refine r_getr (x := 56) dX7_kept_1 flX7_11 sf55 (by decide) (by decide) rfl rfl ?_
  refine r_aload_n dX7_kept_4 rfl (by decide) ?_
  refine r_gi 1 dX7_kept_5 flX7_22 sf55 (by decide) (by decide) rfl rfl (by first | assumption | ((repeat (first | (apply rd_ne; · omega) | (apply rd_eq; · omega) | (apply rd_out; · omega) | (apply rd_in; · omega))); first | assumption | rfl)) ?_
  refine r_iload_n dX7_kept_8 rfl ?_
  refine r_iconst dX7_kept_9 (by decide) ?_
  refine r_mmax dX7_kept_10 clmX7_33 ma_max1 ii_Math ma_max2 (by decide) (Nat.le_of_ble_eq_true rfl) (show max i 0 = i by omega) ?_
  refine r_iadd dX7_kept_13 (w32_id (by omega)) ?_
  refine r_bipush dX7_kept_14 (by decide) (by decide) ?_
  refine r_irem dX7_kept_16 (by omega) (rmn (by omega)) ?_
  refine r_aald dX7_kept_17 sf56 (by decide) (by decide) (by decide) (by omega) (by omega) (by decide) (ah_s (by omega)) ?_
  refine r_ret dX7_kept_18 ⟨_, rfl⟩ ?_
  exact ⟨rfl, rfl, rfl⟩
/-- where the i-th of the steps that are kept lies -/
def kp_k (M : Me) (i : Int) : Int := 247 + 5 * ((M 245 1 + i) % 30)
theorem c_kept_k {x y z : Int} {M : Me} {i : Int} (hi : 0 ≤ i ∧ i < 100) (h1 : 0 ≤ M 245 1 ∧ M 245 1 < 30) : Con kX7_kept 1 0 0 [(1, 245), (0, i)] (Sf x y z) M (Ex (some (1, kp_k M i)) (Sf x y z) M) := by
  refine Con.ofV (al := [(1, 245), (0, i)]) 0 (by decide) (Nat.le_of_ble_eq_true rfl) rfl ?_
  refine r_aload_n dX7_kept_0 rfl (by decide) ?_
  refine r_getr (x := 246) dX7_kept_1 flX7_11 sf245 (by decide) (by decide) rfl rfl ?_
  refine r_aload_n dX7_kept_4 rfl (by decide) ?_
  refine r_gi 1 dX7_kept_5 flX7_22 sf245 (by decide) (by decide) rfl rfl (by first | assumption | ((repeat (first | (apply rd_ne; · omega) | (apply rd_eq; · omega) | (apply rd_out; · omega) | (apply rd_in; · omega))); first | assumption | rfl)) ?_
  refine r_iload_n dX7_kept_8 rfl ?_
  refine r_iconst dX7_kept_9 (by decide) ?_
  refine r_mmax dX7_kept_10 clmX7_33 ma_max1 ii_Math ma_max2 (by decide) (Nat.le_of_ble_eq_true rfl) (show max i 0 = i by omega) ?_
  refine r_iadd dX7_kept_13 (w32_id (by omega)) ?_
  refine r_bipush dX7_kept_14 (by decide) (by decide) ?_
  refine r_irem dX7_kept_16 (by omega) (rmn (by omega)) ?_
  refine r_aald dX7_kept_17 sf246 (by decide) (by decide) (by decide) (by omega) (by omega) (by decide) (ah_k (by omega)) ?_
  refine r_ret dX7_kept_18 ⟨_, rfl⟩ ?_
  exact ⟨rfl, rfl, rfl⟩
theorem kp_sb {M : Me} {i : Int} : 57 ≤ kp_s M i ∧ kp_s M i ≤ 202 ∧ (kp_s M i - 57) % 5 = 0 := by
  unfold kp_s
  omega
theorem ms_kps {x y z : Int} {M : Me} {i : Int} : MS (Sf x y z) (kp_s M i) := by
  unfold kp_s
  exact ms_s (by omega)
theorem kp_kb {M : Me} {i : Int} : 247 ≤ kp_k M i ∧ kp_k M i ≤ 392 ∧ (kp_k M i - 247) % 5 = 0 := by
  unfold kp_k
  omega
theorem ms_kpk {x y z : Int} {M : Me} {i : Int} : MS (Sf x y z) (kp_k M i) := by
  unfold kp_k
  exact ms_k (by omega)
/-- the count and the first of the steps once one more is kept -/
def kaC (M : Me) : Me := if M 55 0 < 30 then up M 55 0 (M 55 0 + 1) else up M 55 1 ((M 55 1 + 1) % 30)
def keC (M : Me) : Me := mcp (kaC M) (kp_s (kaC M) (kaC M 55 0 - 1)) 50
theorem kaC_o {M : Me} {a j : Int} (h : a ≠ 55) : kaC M a j = M a j := by
  unfold kaC
  split <;> exact up_ne (by omega)
theorem kaC_b {M : Me} (h0 : 0 ≤ M 55 0 ∧ M 55 0 ≤ 30) (h1 : 0 ≤ M 55 1 ∧ M 55 1 < 30) : (1 ≤ kaC M 55 0 ∧ kaC M 55 0 ≤ 30) ∧ 0 ≤ kaC M 55 1 ∧ kaC M 55 1 < 30 := by
  unfold kaC
  split
  · rw [up_eq ⟨rfl, rfl⟩, up_ne (by omega)]; omega
  · rw [up_ne (by omega), up_eq ⟨rfl, rfl⟩]; omega
theorem c_keep {x y z : Int} {M : Me} (h0 : 0 ≤ M 55 0 ∧ M 55 0 ≤ 30) (h1 : 0 ≤ M 55 1 ∧ M 55 1 < 30) : Con kX7_keep 2 0 0 [(1, 55), (1, 50)] (Sf x y z) M (Ex none (Sf x y z) (keC M)) := by
  refine Con.ofV (al := [(1, 55), (1, 50)]) 0 (by decide) (Nat.le_of_ble_eq_true rfl) rfl ?_
  have hb := kaC_b h0 h1
  have hk := kp_sb (M := kaC M) (i := kaC M 55 0 - 1)
  refine r_aload_n dX7_keep_0 rfl (by decide) ?_
  refine r_gi 0 dX7_keep_1 flX7_18 sf55 (by decide) (by decide) rfl rfl (by first | assumption | ((repeat (first | (apply rd_ne; · omega) | (apply rd_eq; · omega) | (apply rd_out; · omega) | (apply rd_in; · omega))); first | assumption | rfl)) ?_
  refine r_bipush dX7_keep_4 (by decide) (by decide) ?_
  refine r_icmp_ge (tgt := 22) dX7_keep_6 (by decide) (fun h6 => ?_) (fun h6 => ?_)
  · refine r_aload_n dX7_keep_22 rfl (by decide) ?_
    refine r_aload_n dX7_keep_23 rfl (by decide) ?_
    refine r_gi 1 dX7_keep_24 flX7_22 sf55 (by decide) (by decide) rfl rfl (by first | assumption | ((repeat (first | (apply rd_ne; · omega) | (apply rd_eq; · omega) | (apply rd_out; · omega) | (apply rd_in; · omega))); first | assumption | rfl)) ?_
    refine r_iconst dX7_keep_27 (by decide) ?_
    refine r_iadd dX7_keep_28 (w32_id (by omega)) ?_
    refine r_bipush dX7_keep_29 (by decide) (by decide) ?_
    refine r_irem dX7_keep_31 (by omega) (rmn (by omega)) ?_
    refine r_pi 1 dX7_keep_32 fpX7_22 sf55 (by decide) (by decide) rfl rfl ?_
    first | (refine V.cm rfl (show _ = kaC M from (if_pos (by omega)).symm) ?_) | (refine V.cm rfl (show _ = kaC M from (if_neg (by omega)).symm) ?_)
    refine r_aload_n dX7_keep_35 rfl (by decide) ?_
    refine r_aload_n dX7_keep_36 rfl (by decide) ?_
    refine r_gi 0 dX7_keep_37 flX7_18 sf55 (by decide) (by decide) rfl rfl rfl ?_
    refine r_iconst dX7_keep_40 (by decide) ?_
    refine r_isub dX7_keep_41 (w32_id (by omega)) ?_
    refine r_cv1 dX7_keep_42 clX7_25 sf55 (by decide) (by decide) rfl (by first | decide | omega) (Nat.le_of_ble_eq_true rfl) ((c_kept_s (by omega) hb.2)) ⟨Nat.zero_le _, Nat.zero_le _⟩ (fun _ => ?_)
    refine r_aload_n dX7_keep_45 rfl (by decide) ?_
    refine r_cw1 dX7_keep_46 clX7_29 ms_kps.1 (by omega) (by decide) rfl (by first | decide | omega) (Nat.le_of_ble_eq_true rfl) ((c_mcopy ms_kps ms_50 (by omega))) ⟨Nat.zero_le _, Nat.zero_le _⟩ ?_
    refine r_ret0 dX7_keep_49 rfl ?_
    exact ⟨rfl, rfl, rfl⟩
  · refine r_aload_n dX7_keep_9 rfl (by decide) ?_
    refine r_dup dX7_keep_10 (Nat.ne_of_beq_eq_false rfl) ?_
    refine r_gi 0 dX7_keep_11 flX7_18 sf55 (by decide) (by decide) rfl rfl (by first | assumption | ((repeat (first | (apply rd_ne; · omega) | (apply rd_eq; · omega) | (apply rd_out; · omega) | (apply rd_in; · omega))); first | assumption | rfl)) ?_
    refine r_iconst dX7_keep_14 (by decide) ?_
    refine r_iadd dX7_keep_15 (w32_id (by omega)) ?_
    refine r_pi 0 dX7_keep_16 fpX7_18 sf55 (by decide) (by decide) rfl rfl ?_
    refine r_goto (tgt := 35) dX7_keep_19 (by decide) ?_
    first | (refine V.cm rfl (show _ = kaC M from (if_pos (by omega)).symm) ?_) | (refine V.cm rfl (show _ = kaC M from (if_neg (by omega)).symm) ?_)
    refine r_aload_n dX7_keep_35 rfl (by decide) ?_
    refine r_aload_n dX7_keep_36 rfl (by decide) ?_
    refine r_gi 0 dX7_keep_37 flX7_18 sf55 (by decide) (by decide) rfl rfl rfl ?_
    refine r_iconst dX7_keep_40 (by decide) ?_
    refine r_isub dX7_keep_41 (w32_id (by omega)) ?_
    refine r_cv1 dX7_keep_42 clX7_25 sf55 (by decide) (by decide) rfl (by first | decide | omega) (Nat.le_of_ble_eq_true rfl) ((c_kept_s (by omega) hb.2)) ⟨Nat.zero_le _, Nat.zero_le _⟩ (fun _ => ?_)
    refine r_aload_n dX7_keep_45 rfl (by decide) ?_
    refine r_cw1 dX7_keep_46 clX7_29 ms_kps.1 (by omega) (by decide) rfl (by first | decide | omega) (Nat.le_of_ble_eq_true rfl) ((c_mcopy ms_kps ms_50 (by omega))) ⟨Nat.zero_le _, Nat.zero_le _⟩ ?_
    refine r_ret0 dX7_keep_49 rfl ?_
    exact ⟨rfl, rfl, rfl⟩
def bkC (M : Me) (c w : Int) : Int := or32 (or32 (shl32 (M 50 0) 6) (shl32 c 2)) w
/-- one more written down -/
def wrC (M : Me) (c w : Int) : Me := if M 50 4 < 30 then up (up M 54 (M 50 4) (bkC M c w)) 50 4 (M 50 4 + 1) else up (up (up (cpy M 54 1 54 0 29) 50 4 29) 54 29 (bkC M c w)) 50 4 30
theorem c_write {x y z : Int} {M : Me} {c w : Int} (h4 : 0 ≤ M 50 4 ∧ M 50 4 ≤ 30) : Con kX3_write 1 0 0 [(1, 50), (0, c), (0, w)] (Sf x y z) M (Ex none (Sf x y z) (wrC M c w)) := by
  refine Con.ofV (al := [(1, 50), (0, c), (0, w)]) 0 (by decide) (Nat.le_of_ble_eq_true rfl) rfl ?_
  refine r_aload_n dX3_write_0 rfl (by decide) ?_
  refine r_gi 4 dX3_write_1 flX3_37 sf50 (by decide) (by decide) rfl rfl (by first | assumption | ((repeat (first | (apply rd_ne; · omega) | (apply rd_eq; · omega) | (apply rd_out; · omega) | (apply rd_in; · omega))); first | assumption | rfl)) ?_
  refine r_bipush dX3_write_4 (by decide) (by decide) ?_
  refine r_icmp_lt (tgt := 30) dX3_write_6 (by decide) (fun h6 => ?_) (fun h6 => ?_)
  · refine r_aload_n dX3_write_30 rfl (by decide) ?_
    refine r_getr (x := 54) dX3_write_31 flX3_25 sf50 (by decide) (by decide) rfl rfl ?_
    refine r_aload_n dX3_write_34 rfl (by decide) ?_
    refine r_gi 4 dX3_write_35 flX3_37 sf50 (by decide) (by decide) rfl rfl (by first | assumption | ((repeat (first | (apply rd_ne; · omega) | (apply rd_eq; · omega) | (apply rd_out; · omega) | (apply rd_in; · omega))); first | assumption | rfl)) ?_
    refine r_aload_n dX3_write_38 rfl (by decide) ?_
    refine r_gi 0 dX3_write_39 flX3_28 sf50 (by decide) (by decide) rfl rfl (by first | assumption | ((repeat (first | (apply rd_ne; · omega) | (apply rd_eq; · omega) | (apply rd_out; · omega) | (apply rd_in; · omega))); first | assumption | rfl)) ?_
    refine r_bipush dX3_write_42 (by decide) (by decide) ?_
    refine r_ishl dX3_write_44 rfl ?_
    refine r_iload_n dX3_write_45 rfl ?_
    refine r_iconst dX3_write_46 (by decide) ?_
    refine r_ishl dX3_write_47 rfl ?_
    refine r_ior dX3_write_48 rfl ?_
    refine r_iload_n dX3_write_49 rfl ?_
    refine r_ior dX3_write_50 rfl ?_
    refine r_iast dX3_write_51 sf54 (by decide) (by omega) (by omega) (by decide) rfl ?_
    refine r_aload_n dX3_write_52 rfl (by decide) ?_
    refine r_dup dX3_write_53 (Nat.ne_of_beq_eq_false rfl) ?_
    refine r_gi 4 dX3_write_54 flX3_37 sf50 (by decide) (by decide) rfl rfl (by first | assumption | ((repeat (first | (apply rd_ne; · omega) | (apply rd_eq; · omega) | (apply rd_out; · omega) | (apply rd_in; · omega))); first | assumption | rfl)) ?_
    refine r_iconst dX3_write_57 (by decide) ?_
    refine r_iadd dX3_write_58 (w32_id (by omega)) ?_
    refine r_pi 4 dX3_write_59 fpX3_37 sf50 (by decide) (by decide) rfl rfl ?_
    refine r_ret0 dX3_write_62 rfl ?_
    first | exact ⟨rfl, rfl, by unfold wrC bkC; rw [if_pos (by omega)]⟩ | exact ⟨rfl, rfl, by unfold wrC bkC; rw [if_neg (by omega)]; rfl⟩
  · refine r_aload_n dX3_write_9 rfl (by decide) ?_
    refine r_getr (x := 54) dX3_write_10 flX3_25 sf50 (by decide) (by decide) rfl rfl ?_
    refine r_iconst dX3_write_13 (by decide) ?_
    refine r_aload_n dX3_write_14 rfl (by decide) ?_
    refine r_getr (x := 54) dX3_write_15 flX3_25 sf50 (by decide) (by decide) rfl rfl ?_
    refine r_iconst dX3_write_18 (by decide) ?_
    refine r_bipush dX3_write_19 (by decide) (by decide) ?_
    refine r_copy dX3_write_21 clX3_40 ay_2 ay_1 ii_System (by decide) (Nat.le_of_ble_eq_true rfl) sf54 sf54 (by decide) (by decide) (by omega) (by omega) (by omega) (by omega) (by omega) (by decide) (by decide) rfl ?_
    refine r_aload_n dX3_write_24 rfl (by decide) ?_
    refine r_bipush dX3_write_25 (by decide) (by decide) ?_
    refine r_pi 4 dX3_write_27 fpX3_37 sf50 (by decide) (by decide) rfl rfl ?_
    refine r_aload_n dX3_write_30 rfl (by decide) ?_
    refine r_getr (x := 54) dX3_write_31 flX3_25 sf50 (by decide) (by decide) rfl rfl ?_
    refine r_aload_n dX3_write_34 rfl (by decide) ?_
    refine r_gi 4 dX3_write_35 flX3_37 sf50 (by decide) (by decide) rfl rfl (by first | assumption | ((repeat (first | (apply rd_ne; · omega) | (apply rd_eq; · omega) | (apply rd_out; · omega) | (apply rd_in; · omega))); first | assumption | rfl)) ?_
    refine r_aload_n dX3_write_38 rfl (by decide) ?_
    refine r_gi 0 dX3_write_39 flX3_28 sf50 (by decide) (by decide) rfl rfl (by first | assumption | ((repeat (first | (apply rd_ne; · omega) | (apply rd_eq; · omega) | (apply rd_out; · omega) | (apply rd_in; · omega))); first | assumption | rfl)) ?_
    refine r_bipush dX3_write_42 (by decide) (by decide) ?_
    refine r_ishl dX3_write_44 rfl ?_
    refine r_iload_n dX3_write_45 rfl ?_
    refine r_iconst dX3_write_46 (by decide) ?_
    refine r_ishl dX3_write_47 rfl ?_
    refine r_ior dX3_write_48 rfl ?_
    refine r_iload_n dX3_write_49 rfl ?_
    refine r_ior dX3_write_50 rfl ?_
    refine r_iast dX3_write_51 sf54 (by decide) (by omega) (by omega) (by decide) rfl ?_
    refine r_aload_n dX3_write_52 rfl (by decide) ?_
    refine r_dup dX3_write_53 (Nat.ne_of_beq_eq_false rfl) ?_
    refine r_gi 4 dX3_write_54 flX3_37 sf50 (by decide) (by decide) rfl rfl (by first | assumption | ((repeat (first | (apply rd_ne; · omega) | (apply rd_eq; · omega) | (apply rd_out; · omega) | (apply rd_in; · omega))); first | assumption | rfl)) ?_
    refine r_iconst dX3_write_57 (by decide) ?_
    refine r_iadd dX3_write_58 (w32_id (by omega)) ?_
    refine r_pi 4 dX3_write_59 fpX3_37 sf50 (by decide) (by decide) rfl rfl ?_
    refine r_ret0 dX3_write_62 rfl ?_
    first | exact ⟨rfl, rfl, by unfold wrC bkC; rw [if_pos (by omega)]⟩ | exact ⟨rfl, rfl, by unfold wrC bkC; rw [if_neg (by omega)]; rfl⟩
def enC (M : Me) (i u : Int) : Int := if 0 ≤ i ∧ i < M 50 4 then (if u = 0 then shr32 (M 54 i) 6 else if u = 1 then and32 (shr32 (M 54 i) 2) 15 else if u = 2 then and32 (M 54 i) 3 else -2) else -2
theorem c_entry {x y z : Int} {M : Me} {i u : Int} (h4 : 0 ≤ M 50 4 ∧ M 50 4 ≤ 30) : Con kX3_entry 0 0 0 [(1, 50), (0, i), (0, u)] (Sf x y z) M (Ex (some (0, enC M i u)) (Sf x y z) M) := by
  refine Con.ofV (al := [(1, 50), (0, i), (0, u)]) 0 (by decide) (Nat.le_of_ble_eq_true rfl) rfl ?_
  refine r_iload_n dX3_entry_0 rfl ?_
  refine r_if_lt (tgt := 12) dX3_entry_1 (by decide) (fun h1 => ?_) (fun h1 => ?_)
  · refine r_bipush dX3_entry_12 (by decide) (by decide) ?_
    refine r_iret dX3_entry_14 rfl ?_
    first | exact ⟨by unfold enC; rw [if_neg (by omega)], rfl, rfl⟩ | exact ⟨by unfold enC; rw [if_pos (by omega), if_pos (by omega)], rfl, rfl⟩ | exact ⟨by unfold enC; rw [if_pos (by omega), if_neg (by omega), if_pos (by omega)], rfl, rfl⟩ | exact ⟨by unfold enC; rw [if_pos (by omega), if_neg (by omega), if_neg (by omega), if_pos (by omega)], rfl, rfl⟩ | exact ⟨by unfold enC; rw [if_pos (by omega), if_neg (by omega), if_neg (by omega), if_neg (by omega)], rfl, rfl⟩
  · refine r_iload_n dX3_entry_4 rfl ?_
    refine r_aload_n dX3_entry_5 rfl (by decide) ?_
    refine r_gi 4 dX3_entry_6 flX3_37 sf50 (by decide) (by decide) rfl rfl (by first | assumption | ((repeat (first | (apply rd_ne; · omega) | (apply rd_eq; · omega) | (apply rd_out; · omega) | (apply rd_in; · omega))); first | assumption | rfl)) ?_
    refine r_icmp_lt (tgt := 15) dX3_entry_9 (by decide) (fun h9 => ?_) (fun h9 => ?_)
    · refine r_iload_n dX3_entry_15 rfl ?_
      rcases (show (u < 0 ∨ 2 < u) ∨ u = 0 ∨ u = 1 ∨ u = 2 by omega) with hsw | hsw | hsw | hsw
      · refine r_tabOut (tgt := 75) dX3_entry_16 hsw (by decide) ?_
        refine r_bipush dX3_entry_75 (by decide) (by decide) ?_
        refine r_iret dX3_entry_77 rfl ?_
        first | exact ⟨by unfold enC; rw [if_neg (by omega)], rfl, rfl⟩ | exact ⟨by unfold enC; rw [if_pos (by omega), if_pos (by omega)], rfl, rfl⟩ | exact ⟨by unfold enC; rw [if_pos (by omega), if_neg (by omega), if_pos (by omega)], rfl, rfl⟩ | exact ⟨by unfold enC; rw [if_pos (by omega), if_neg (by omega), if_neg (by omega), if_pos (by omega)], rfl, rfl⟩ | exact ⟨by unfold enC; rw [if_pos (by omega), if_neg (by omega), if_neg (by omega), if_neg (by omega)], rfl, rfl⟩
      · refine r_tabEq (tgt := 44) dX3_entry_16 hsw (by decide) (by decide) rfl (by decide) ?_
        refine r_aload_n dX3_entry_44 rfl (by decide) ?_
        refine r_getr (x := 54) dX3_entry_45 flX3_25 sf50 (by decide) (by decide) rfl rfl ?_
        refine r_iload_n dX3_entry_48 rfl ?_
        refine r_iald dX3_entry_49 sf54 (by decide) (by omega) (by omega) (by decide) (by first | assumption | ((repeat (first | (apply rd_ne; · omega) | (apply rd_eq; · omega) | (apply rd_out; · omega) | (apply rd_in; · omega))); first | assumption | rfl)) ?_
        refine r_bipush dX3_entry_50 (by decide) (by decide) ?_
        refine r_ishr dX3_entry_52 rfl ?_
        refine r_iret dX3_entry_53 rfl ?_
        first | exact ⟨by unfold enC; rw [if_neg (by omega)], rfl, rfl⟩ | exact ⟨by unfold enC; rw [if_pos (by omega), if_pos (by omega)], rfl, rfl⟩ | exact ⟨by unfold enC; rw [if_pos (by omega), if_neg (by omega), if_pos (by omega)], rfl, rfl⟩ | exact ⟨by unfold enC; rw [if_pos (by omega), if_neg (by omega), if_neg (by omega), if_pos (by omega)], rfl, rfl⟩ | exact ⟨by unfold enC; rw [if_pos (by omega), if_neg (by omega), if_neg (by omega), if_neg (by omega)], rfl, rfl⟩
      · refine r_tabEq (tgt := 54) dX3_entry_16 hsw (by decide) (by decide) rfl (by decide) ?_
        refine r_aload_n dX3_entry_54 rfl (by decide) ?_
        refine r_getr (x := 54) dX3_entry_55 flX3_25 sf50 (by decide) (by decide) rfl rfl ?_
        refine r_iload_n dX3_entry_58 rfl ?_
        refine r_iald dX3_entry_59 sf54 (by decide) (by omega) (by omega) (by decide) (by first | assumption | ((repeat (first | (apply rd_ne; · omega) | (apply rd_eq; · omega) | (apply rd_out; · omega) | (apply rd_in; · omega))); first | assumption | rfl)) ?_
        refine r_iconst dX3_entry_60 (by decide) ?_
        refine r_ishr dX3_entry_61 rfl ?_
        refine r_bipush dX3_entry_62 (by decide) (by decide) ?_
        refine r_iand dX3_entry_64 rfl ?_
        refine r_iret dX3_entry_65 rfl ?_
        first | exact ⟨by unfold enC; rw [if_neg (by omega)], rfl, rfl⟩ | exact ⟨by unfold enC; rw [if_pos (by omega), if_pos (by omega)], rfl, rfl⟩ | exact ⟨by unfold enC; rw [if_pos (by omega), if_neg (by omega), if_pos (by omega)], rfl, rfl⟩ | exact ⟨by unfold enC; rw [if_pos (by omega), if_neg (by omega), if_neg (by omega), if_pos (by omega)], rfl, rfl⟩ | exact ⟨by unfold enC; rw [if_pos (by omega), if_neg (by omega), if_neg (by omega), if_neg (by omega)], rfl, rfl⟩
      · refine r_tabEq (tgt := 66) dX3_entry_16 hsw (by decide) (by decide) rfl (by decide) ?_
        refine r_aload_n dX3_entry_66 rfl (by decide) ?_
        refine r_getr (x := 54) dX3_entry_67 flX3_25 sf50 (by decide) (by decide) rfl rfl ?_
        refine r_iload_n dX3_entry_70 rfl ?_
        refine r_iald dX3_entry_71 sf54 (by decide) (by omega) (by omega) (by decide) (by first | assumption | ((repeat (first | (apply rd_ne; · omega) | (apply rd_eq; · omega) | (apply rd_out; · omega) | (apply rd_in; · omega))); first | assumption | rfl)) ?_
        refine r_iconst dX3_entry_72 (by decide) ?_
        refine r_iand dX3_entry_73 rfl ?_
        refine r_iret dX3_entry_74 rfl ?_
        first | exact ⟨by unfold enC; rw [if_neg (by omega)], rfl, rfl⟩ | exact ⟨by unfold enC; rw [if_pos (by omega), if_pos (by omega)], rfl, rfl⟩ | exact ⟨by unfold enC; rw [if_pos (by omega), if_neg (by omega), if_pos (by omega)], rfl, rfl⟩ | exact ⟨by unfold enC; rw [if_pos (by omega), if_neg (by omega), if_neg (by omega), if_pos (by omega)], rfl, rfl⟩ | exact ⟨by unfold enC; rw [if_pos (by omega), if_neg (by omega), if_neg (by omega), if_neg (by omega)], rfl, rfl⟩
    · refine r_bipush dX3_entry_12 (by decide) (by decide) ?_
      refine r_iret dX3_entry_14 rfl ?_
      first | exact ⟨by unfold enC; rw [if_neg (by omega)], rfl, rfl⟩ | exact ⟨by unfold enC; rw [if_pos (by omega), if_pos (by omega)], rfl, rfl⟩ | exact ⟨by unfold enC; rw [if_pos (by omega), if_neg (by omega), if_pos (by omega)], rfl, rfl⟩ | exact ⟨by unfold enC; rw [if_pos (by omega), if_neg (by omega), if_neg (by omega), if_pos (by omega)], rfl, rfl⟩ | exact ⟨by unfold enC; rw [if_pos (by omega), if_neg (by omega), if_neg (by omega), if_neg (by omega)], rfl, rfl⟩
def drC (M : Me) : Me := up M 50 1 ((M 50 1 * 401 + 281) % 30509)
theorem c_draw {x y z : Int} {M : Me} (h1 : 0 ≤ M 50 1 ∧ M 50 1 < 40000) : Con kX3_draw 0 0 0 [(1, 50)] (Sf x y z) M (Ex (some (0, M 50 1 % 10)) (Sf x y z) (drC M)) := by
  refine Con.ofV (al := [(1, 50), (9, 0)]) 1 (by decide) (Nat.le_of_ble_eq_true rfl) rfl ?_
  refine r_aload_n dX3_draw_0 rfl (by decide) ?_
  refine r_gi 1 dX3_draw_1 flX3_9 sf50 (by decide) (by decide) rfl rfl rfl ?_
  refine r_bipush dX3_draw_4 (by decide) (by decide) ?_
  refine r_irem dX3_draw_6 (by omega) (rmn (by omega)) ?_
  refine r_istore_n dX3_draw_7 rfl (by decide) st1 ?_
  refine r_aload_n dX3_draw_8 rfl (by decide) ?_
  refine r_aload_n dX3_draw_9 rfl (by decide) ?_
  refine r_gi 1 dX3_draw_10 flX3_9 sf50 (by decide) (by decide) rfl rfl rfl ?_
  refine r_sipush dX3_draw_13 (by decide) (by decide) ?_
  refine r_imul dX3_draw_16 (w32_id (by omega)) ?_
  refine r_sipush dX3_draw_17 (by decide) (by decide) ?_
  refine r_iadd dX3_draw_20 (w32_id (by omega)) ?_
  refine r_sipush dX3_draw_21 (by decide) (by decide) ?_
  refine r_irem dX3_draw_24 (by omega) (rmn (by omega)) ?_
  refine r_pi 1 dX3_draw_25 fpX3_9 sf50 (by decide) (by decide) rfl rfl ?_
  refine r_iload_n dX3_draw_28 rfl ?_
  refine r_iret dX3_draw_29 rfl ?_
  exact ⟨rfl, rfl, rfl⟩
