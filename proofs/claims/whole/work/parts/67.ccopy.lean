/-- a list and its rows of l places lie at t and behind it -/
def TD (S : Sh) (t : Int) (l : Nat) : Prop := S[t.toNat]? = some (9, 4, [-1, t + 1, t + 2, t + 3]) ∧ S[(t + 1).toNat]? = some (20, l, []) ∧ S[(t + 2).toNat]? = some (20, l, []) ∧ S[(t + 3).toNat]? = some (20, l, []) ∧ 0 ≤ t ∧ l < 100
def tcp (M : Me) (d s n : Int) : Me := cpy (cpy (cpy (up M d 0 n) (s + 1) 0 (d + 1) 0 n) (s + 2) 0 (d + 2) 0 n) (s + 3) 0 (d + 3) 0 n
theorem tcp_o {M : Me} {d s n a j : Int} (h : ¬ (d ≤ a ∧ a ≤ d + 3)) : tcp M d s n a j = M a j := by
  unfold tcp
  rw [cpy_out (by omega), cpy_out (by omega), cpy_out (by omega), up_ne (by omega)]
theorem tcp_0 {M : Me} {d s n : Int} : tcp M d s n d 0 = n := by
  unfold tcp
  rw [cpy_out (by omega), cpy_out (by omega), cpy_out (by omega), up_eq ⟨rfl, rfl⟩]
theorem tcp_1 {M : Me} {d s n a j : Int} (hne : d + 3 < s ∨ s + 3 < d) (ha : a = d + 1) (h : 0 ≤ j ∧ j < n) : tcp M d s n a j = M (s + 1) j := by
  unfold tcp
  rw [cpy_out (by omega), cpy_out (by omega), cpy_in (by omega), up_ne (by omega), show 0 + (j - 0) = j by omega]
theorem tcp_2 {M : Me} {d s n a j : Int} (hne : d + 3 < s ∨ s + 3 < d) (ha : a = d + 2) (h : 0 ≤ j ∧ j < n) : tcp M d s n a j = M (s + 2) j := by
  unfold tcp
  rw [cpy_out (by omega), cpy_in (by omega), cpy_out (by omega), up_ne (by omega), show 0 + (j - 0) = j by omega]
theorem tcp_3 {M : Me} {d s n a j : Int} (hne : d + 3 < s ∨ s + 3 < d) (ha : a = d + 3) (h : 0 ≤ j ∧ j < n) : tcp M d s n a j = M (s + 3) j := by
  unfold tcp
  rw [cpy_in (by omega), cpy_out (by omega), cpy_out (by omega), up_ne (by omega), show 0 + (j - 0) = j by omega]
theorem c_tcopy {S : Sh} {M : Me} {d s : Int} {l : Nat} (hd : TD S d l) (hs : TD S s l) (hne : d + 3 < s ∨ s + 3 < d) {n : Int} (hn : M s 0 = n) (hn0 : 0 ≤ n ∧ n ≤ l) : Con kX9_copy 1 0 0 [(1, d), (1, s)] S M (Ex none S (tcp M d s n)) := by
  refine Con.ofV (al := [(1, d), (1, s)]) 0 (by decide) (Nat.le_of_ble_eq_true rfl) rfl ?_
  obtain ⟨d0, d1, d2, d3, dp, lp⟩ := hd
  obtain ⟨s0, s1, s2, s3, sp, -⟩ := hs
  refine r_aload_n dX9_copy_0 rfl (by omega) ?_
  refine r_aload_n dX9_copy_1 rfl (by omega) ?_
  refine r_gi 0 dX9_copy_2 flX9_21 s0 (by decide) (by omega) rfl rfl hn ?_
  refine r_aload_n dX9_copy_5 rfl (by omega) ?_
  refine r_getr (x := d + 1) dX9_copy_6 flX9_9 d0 (by decide) (by omega) rfl rfl ?_
  refine r_alen dX9_copy_9 d1 (by decide) (by decide) (by omega) (by first | decide | omega) rfl ?_
  refine r_mmin dX9_copy_10 clmX9_25 ma_min1 ii_Math ma_min2 (by decide) (Nat.le_of_ble_eq_true rfl) (show min n (l : Int) = n by omega) ?_
  refine r_pi 0 dX9_copy_13 fpX9_21 d0 (by decide) (by omega) rfl rfl ?_
  refine r_aload_n dX9_copy_16 rfl (by omega) ?_
  refine r_getr (x := s + 1) dX9_copy_17 flX9_9 s0 (by decide) (by omega) rfl rfl ?_
  refine r_iconst dX9_copy_20 (by decide) ?_
  refine r_aload_n dX9_copy_21 rfl (by omega) ?_
  refine r_getr (x := d + 1) dX9_copy_22 flX9_9 d0 (by decide) (by omega) rfl rfl ?_
  refine r_iconst dX9_copy_25 (by decide) ?_
  refine r_aload_n dX9_copy_26 rfl (by omega) ?_
  refine r_gi 0 dX9_copy_27 flX9_21 d0 (by decide) (by omega) rfl rfl (up_eq ⟨rfl, rfl⟩) ?_
  refine r_copy dX9_copy_30 clX9_31 ay_2 ay_1 ii_System (by decide) (Nat.le_of_ble_eq_true rfl) s1 d1 (by omega) (by omega) (by omega) (by omega) (by omega) (by omega) (by omega) (by first | decide | omega) (by first | decide | omega) rfl ?_
  refine r_aload_n dX9_copy_33 rfl (by omega) ?_
  refine r_getr (x := s + 2) dX9_copy_34 flX9_15 s0 (by decide) (by omega) rfl rfl ?_
  refine r_iconst dX9_copy_37 (by decide) ?_
  refine r_aload_n dX9_copy_38 rfl (by omega) ?_
  refine r_getr (x := d + 2) dX9_copy_39 flX9_15 d0 (by decide) (by omega) rfl rfl ?_
  refine r_iconst dX9_copy_42 (by decide) ?_
  refine r_aload_n dX9_copy_43 rfl (by omega) ?_
  refine r_gi 0 dX9_copy_44 flX9_21 d0 (by decide) (by omega) rfl rfl ((cpy_out (by omega)).trans (up_eq ⟨rfl, rfl⟩)) ?_
  refine r_copy dX9_copy_47 clX9_31 ay_2 ay_1 ii_System (by decide) (Nat.le_of_ble_eq_true rfl) s2 d2 (by omega) (by omega) (by omega) (by omega) (by omega) (by omega) (by omega) (by first | decide | omega) (by first | decide | omega) rfl ?_
  refine r_aload_n dX9_copy_50 rfl (by omega) ?_
  refine r_getr (x := s + 3) dX9_copy_51 flX9_18 s0 (by decide) (by omega) rfl rfl ?_
  refine r_iconst dX9_copy_54 (by decide) ?_
  refine r_aload_n dX9_copy_55 rfl (by omega) ?_
  refine r_getr (x := d + 3) dX9_copy_56 flX9_18 d0 (by decide) (by omega) rfl rfl ?_
  refine r_iconst dX9_copy_59 (by decide) ?_
  refine r_aload_n dX9_copy_60 rfl (by omega) ?_
  refine r_gi 0 dX9_copy_61 flX9_21 d0 (by decide) (by omega) rfl rfl ((cpy_out (by omega)).trans ((cpy_out (by omega)).trans (up_eq ⟨rfl, rfl⟩))) ?_
  refine r_copy dX9_copy_64 clX9_31 ay_2 ay_1 ii_System (by decide) (Nat.le_of_ble_eq_true rfl) s3 d3 (by omega) (by omega) (by omega) (by omega) (by omega) (by omega) (by omega) (by first | decide | omega) (by first | decide | omega) rfl ?_
  refine r_ret0 dX9_copy_67 rfl ?_
  exact ⟨rfl, rfl, rfl⟩
/-- so many of the steps copied -/
def sc_i (M : Me) : Nat → Me
  | 0 => up (up M 245 1 0) 245 0 (M 55 0)
  | i + 1 => mcp (sc_i M i) (247 + 5 * (i : Int)) (kp_s M i)
theorem sc_io {M : Me} {a j : Int} : ∀ i : Nat, i ≤ 30 → ¬ (a = 245 ∨ (247 ≤ a ∧ a < 247 + 5 * (i : Int))) → sc_i M i a j = M a j := by
  intro i
  induction i with
  | zero => intro _ h; exact (up_ne (by omega)).trans (up_ne (by omega))
  | succ i ih => intro hi h; exact (mcp_o (by omega)).trans (ih (by omega) (by omega))
theorem sc_i0 {M : Me} : ∀ i : Nat, i ≤ 30 → sc_i M i 245 0 = M 55 0 ∧ sc_i M i 245 1 = 0 := by
  intro i
  induction i with
  | zero => intro _; exact ⟨up_eq ⟨rfl, rfl⟩, (up_ne (by omega)).trans (up_eq ⟨rfl, rfl⟩)⟩
  | succ i ih => intro hi; exact ⟨(mcp_o (by omega)).trans (ih (by omega)).1, (mcp_o (by omega)).trans (ih (by omega)).2⟩
theorem l_scopy_i {x y z : Int} {M : Me} {n : Nat} (hn : M 55 0 = (n : Int)) (hn30 : n ≤ 30) (hf : 0 ≤ M 55 1 ∧ M 55 1 < 30) : ∀ (m i : Nat), m + i = n → V kX7_copy 0 0 2 none (Ex none (Sf x y z) (sc_i M n)) 15 [(1, 245), (1, 55), (0, (i : Int))] [] (Sf x y z) (sc_i M i) 0 0 := by
  intro m
  induction m with
  | zero =>
    intro i hi
    obtain rfl : i = n := by omega
    have hg0 : sc_i M i 245 0 = (i : Int) := (sc_i0 i (by omega)).1.trans hn
    refine r_iload_n dX7_copy_15 rfl ?_
    refine r_aload_n dX7_copy_16 rfl (by decide) ?_
    refine r_gi 0 dX7_copy_17 flX7_18 sf245 (by decide) (by decide) rfl rfl hg0 ?_
    refine r_icmp_ge (tgt := 42) dX7_copy_20 (by decide) (fun h20 => ?_) (fun h20 => by exfalso; omega)
    refine r_ret0 dX7_copy_42 rfl ?_
    exact ⟨rfl, rfl, rfl⟩
  | succ m ih =>
    intro i hi
    have hg0 : sc_i M i 245 0 = (n : Int) := (sc_i0 i (by omega)).1.trans hn
    have hg1 := (sc_i0 (M := M) i (by omega)).2
    have e1 : sc_i M i 55 1 = M 55 1 := sc_io i (by omega) (by omega)
    have hkb := kp_sb (M := M) (i := (i : Int))
    refine r_iload_n dX7_copy_15 rfl ?_
    refine r_aload_n dX7_copy_16 rfl (by decide) ?_
    refine r_gi 0 dX7_copy_17 flX7_18 sf245 (by decide) (by decide) rfl rfl hg0 ?_
    refine r_icmp_ge (tgt := 42) dX7_copy_20 (by decide) (fun h20 => by exfalso; omega) (fun h20 => ?_)
    refine r_aload_n dX7_copy_23 rfl (by decide) ?_
    refine r_iload_n dX7_copy_24 rfl ?_
    refine r_cv1 dX7_copy_25 clX7_25 sf245 (by decide) (by decide) rfl (by first | decide | omega) (Nat.le_of_ble_eq_true rfl) ((c_kept_k (by omega) (by rw [hg1]; decide))) ⟨Nat.zero_le _, Nat.zero_le _⟩ (fun _ => ?_)
    rw [show kp_k (sc_i M i) (i : Int) = 247 + 5 * (i : Int) from by unfold kp_k; rw [hg1]; omega]
    refine r_aload_n dX7_copy_28 rfl (by decide) ?_
    refine r_iload_n dX7_copy_29 rfl ?_
    refine r_cv1 dX7_copy_30 clX7_25 sf55 (by decide) (by decide) rfl (by first | decide | omega) (Nat.le_of_ble_eq_true rfl) ((c_kept_s (by omega) (by rw [e1]; exact hf))) ⟨Nat.zero_le _, Nat.zero_le _⟩ (fun _ => ?_)
    rw [show kp_s (sc_i M i) (i : Int) = kp_s M i from by unfold kp_s; rw [e1]]
    refine r_cw1 dX7_copy_33 clX7_29 (ms_k (k := (i : Int)) (by omega)).1 (by omega) (by decide) rfl (by first | decide | omega) (Nat.le_of_ble_eq_true rfl) ((c_mcopy (ms_k (by omega)) ms_kps (by omega))) ⟨Nat.zero_le _, Nat.zero_le _⟩ ?_
    refine V.cm rfl (show _ = sc_i M (i + 1) from rfl) ?_
    refine r_iinc dX7_copy_36 rfl rfl (by decide) (w32_id (by omega)) st2 ?_
    refine r_goto (tgt := 15) dX7_copy_39 (by decide) ?_
    exact ih (i + 1) (by omega)
theorem c_scopy_i {x y z : Int} {M : Me} {n : Nat} (hn : M 55 0 = (n : Int)) (hn30 : n ≤ 30) (hf : 0 ≤ M 55 1 ∧ M 55 1 < 30) : Con kX7_copy 2 0 0 [(1, 245), (1, 55)] (Sf x y z) M (Ex none (Sf x y z) (sc_i M n)) := by
  refine Con.ofV (al := [(1, 245), (1, 55), (9, 0)]) 1 (by decide) (Nat.le_of_ble_eq_true rfl) rfl ?_
  refine r_aload_n dX7_copy_0 rfl (by decide) ?_
  refine r_iconst dX7_copy_1 (by decide) ?_
  refine r_pi 1 dX7_copy_2 fpX7_22 sf245 (by decide) (by decide) rfl rfl ?_
  refine r_aload_n dX7_copy_5 rfl (by decide) ?_
  refine r_aload_n dX7_copy_6 rfl (by decide) ?_
  refine r_gi 0 dX7_copy_7 flX7_18 sf55 (by decide) (by decide) rfl rfl (up_ne (by omega)) ?_
  refine r_pi 0 dX7_copy_10 fpX7_18 sf245 (by decide) (by decide) rfl rfl ?_
  refine r_iconst dX7_copy_13 (by decide) ?_
  refine r_istore_n dX7_copy_14 rfl (by decide) st2 ?_
  exact l_scopy_i hn hn30 hf n 0 (by omega)
def sp_i1 (M : Me) : Me := mcp (up (up (up M 239 0 (M 49 0)) 239 1 (M 49 1)) 239 2 (M 49 2)) 240 50
def sp_i2 (M : Me) (n : Nat) : Me := sc_i (sp_i1 M) n
def sp_i3 (M : Me) (n : Nat) : Me := (cpy (cpy (cpy (cpy (cpy (cpy (cpy (cpy (sp_i2 M n) 207 0 397 0 5) 208 0 398 0 5) 209 0 399 0 12) 210 0 400 0 12) 211 0 401 0 12) 212 0 402 0 12) 213 0 403 0 12) 214 0 404 0 12)
/-- all that the image holds, copied -/
def sp_i (M : Me) (n : Nat) : Me := (tcp (tcp (tcp (tcp (tcp (tcp (sp_i3 M n) 405 215 (M 215 0)) 409 219 (M 219 0)) 413 223 (M 223 0)) 417 227 (M 227 0)) 421 231 (M 231 0)) 425 235 (M 235 0))
theorem sp_i1o {M : Me} {a j : Int} (h : ¬ (239 ≤ a ∧ a ≤ 244)) : sp_i1 M a j = M a j := by
  unfold sp_i1
  rw [mcp_o (by omega), up_ne (by omega), up_ne (by omega), up_ne (by omega)]
theorem sp_i2o {M : Me} {n : Nat} (hn : n ≤ 30) {a j : Int} (h : ¬ (239 ≤ a ∧ a ≤ 396)) : sp_i2 M n a j = M a j := (sc_io n hn (by omega)).trans (sp_i1o (by omega))
theorem sp_i3o {M : Me} {n : Nat} (hn : n ≤ 30) {a j : Int} (h : ¬ (239 ≤ a ∧ a ≤ 404)) : sp_i3 M n a j = M a j := by
  unfold sp_i3
  rw [cpy_out (by omega), cpy_out (by omega), cpy_out (by omega), cpy_out (by omega), cpy_out (by omega), cpy_out (by omega), cpy_out (by omega), cpy_out (by omega)]
  exact sp_i2o hn (by omega)
theorem sp_io {M : Me} {n : Nat} (hn : n ≤ 30) {a j : Int} (h : ¬ (239 ≤ a ∧ a ≤ 428)) : sp_i M n a j = M a j := by
  unfold sp_i
  rw [tcp_o (by omega), tcp_o (by omega), tcp_o (by omega), tcp_o (by omega), tcp_o (by omega), tcp_o (by omega)]
  exact sp_i3o hn (by omega)
set_option maxRecDepth 100000 in
theorem td_i {x y z : Int} : TD (Sf x y z) 405 8 ∧ TD (Sf x y z) 215 8 ∧ TD (Sf x y z) 409 8 ∧ TD (Sf x y z) 219 8 ∧ TD (Sf x y z) 413 8 ∧ TD (Sf x y z) 223 8 ∧ TD (Sf x y z) 417 6 ∧ TD (Sf x y z) 227 6 ∧ TD (Sf x y z) 421 8 ∧ TD (Sf x y z) 231 8 ∧ TD (Sf x y z) 425 8 ∧ TD (Sf x y z) 235 8 := by
  refine ⟨?_, ?_, ?_, ?_, ?_, ?_, ?_, ?_, ?_, ?_, ?_, ?_⟩ <;> exact ⟨rfl, rfl, rfl, rfl, by decide, by decide⟩
theorem c_spcopy_i {x y z : Int} {M : Me} {n : Nat} (hn : M 55 0 = (n : Int)) (hn30 : n ≤ 30) (hf : 0 ≤ M 55 1 ∧ M 55 1 < 30) (hl : (0 ≤ M 215 0 ∧ M 215 0 ≤ 8) ∧ (0 ≤ M 219 0 ∧ M 219 0 ≤ 8) ∧ (0 ≤ M 223 0 ∧ M 223 0 ≤ 8) ∧ (0 ≤ M 227 0 ∧ M 227 0 ≤ 6) ∧ (0 ≤ M 231 0 ∧ M 231 0 ≤ 8) ∧ (0 ≤ M 235 0 ∧ M 235 0 ≤ 8)) : Con kX6_copy 3 0 0 [(1, 239), (1, 49)] (Sf x y z) M (Ex none (Sf x y z) (sp_i M n)) := by
  refine Con.ofV (al := [(1, 239), (1, 49)]) 0 (by decide) (Nat.le_of_ble_eq_true rfl) rfl ?_
  refine r_aload_n dX6_copy_0 rfl (by decide) ?_
  refine r_aload_n dX6_copy_1 rfl (by decide) ?_
  refine r_gi 0 dX6_copy_2 flX6_9 sf49 (by decide) (by decide) rfl rfl rfl ?_
  refine r_pi 0 dX6_copy_5 fpX6_9 sf239 (by decide) (by decide) rfl rfl ?_
  refine r_aload_n dX6_copy_8 rfl (by decide) ?_
  refine r_aload_n dX6_copy_9 rfl (by decide) ?_
  refine r_gi 1 dX6_copy_10 flX6_89 sf49 (by decide) (by decide) rfl rfl (up_ne (by omega)) ?_
  refine r_pi 1 dX6_copy_13 fpX6_89 sf239 (by decide) (by decide) rfl rfl ?_
  refine r_aload_n dX6_copy_16 rfl (by decide) ?_
  refine r_aload_n dX6_copy_17 rfl (by decide) ?_
  refine r_gi 2 dX6_copy_18 flX6_15 sf49 (by decide) (by decide) rfl rfl ((up_ne (by omega)).trans (up_ne (by omega))) ?_
  refine r_pi 2 dX6_copy_21 fpX6_15 sf239 (by decide) (by decide) rfl rfl ?_
  refine r_aload_n dX6_copy_24 rfl (by decide) ?_
  refine r_getr (x := 240) dX6_copy_25 flX6_21 sf239 (by decide) (by decide) rfl rfl ?_
  refine r_aload_n dX6_copy_28 rfl (by decide) ?_
  refine r_getr (x := 50) dX6_copy_29 flX6_21 sf49 (by decide) (by decide) rfl rfl ?_
  refine r_cw1 dX6_copy_32 clX6_92 sf240 (by decide) (by decide) rfl (by first | decide | omega) (Nat.le_of_ble_eq_true rfl) ((c_mcopy ms_240 ms_50 (by decide))) ⟨Nat.zero_le _, Nat.zero_le _⟩ ?_
  refine V.cm rfl (show _ = sp_i1 M from rfl) ?_
  refine r_aload_n dX6_copy_35 rfl (by decide) ?_
  refine r_getr (x := 245) dX6_copy_36 flX6_28 sf239 (by decide) (by decide) rfl rfl ?_
  refine r_aload_n dX6_copy_39 rfl (by decide) ?_
  refine r_getr (x := 55) dX6_copy_40 flX6_28 sf49 (by decide) (by decide) rfl rfl ?_
  refine r_cw1 dX6_copy_43 clX6_96 sf245 (by decide) (by decide) rfl (by first | decide | omega) (Nat.le_of_ble_eq_true rfl) ((c_scopy_i ((sp_i1o (by omega)).trans hn) hn30 (by rw [sp_i1o (by omega)]; exact hf))) ⟨Nat.zero_le _, Nat.zero_le _⟩ ?_
  refine V.cm rfl (show _ = sp_i2 M n from rfl) ?_
  refine r_aload_n dX6_copy_46 rfl (by decide) ?_
  refine r_getr (x := 207) dX6_copy_47 flX6_32 sf49 (by decide) (by decide) rfl rfl ?_
  refine r_iconst dX6_copy_50 (by decide) ?_
  refine r_aload_n dX6_copy_51 rfl (by decide) ?_
  refine r_getr (x := 397) dX6_copy_52 flX6_32 sf239 (by decide) (by decide) rfl rfl ?_
  refine r_iconst dX6_copy_55 (by decide) ?_
  refine r_iconst dX6_copy_56 (by decide) ?_
  refine r_copy dX6_copy_57 clX6_99 ay_2 ay_1 ii_System (by decide) (Nat.le_of_ble_eq_true rfl) sf207 sf397 (by decide) (by decide) (by omega) (by omega) (by omega) (by omega) (by omega) (by first | decide | omega) (by first | decide | omega) rfl ?_
  refine r_aload_n dX6_copy_60 rfl (by decide) ?_
  refine r_getr (x := 208) dX6_copy_61 flX6_36 sf49 (by decide) (by decide) rfl rfl ?_
  refine r_iconst dX6_copy_64 (by decide) ?_
  refine r_aload_n dX6_copy_65 rfl (by decide) ?_
  refine r_getr (x := 398) dX6_copy_66 flX6_36 sf239 (by decide) (by decide) rfl rfl ?_
  refine r_iconst dX6_copy_69 (by decide) ?_
  refine r_iconst dX6_copy_70 (by decide) ?_
  refine r_copy dX6_copy_71 clX6_99 ay_2 ay_1 ii_System (by decide) (Nat.le_of_ble_eq_true rfl) sf208 sf398 (by decide) (by decide) (by omega) (by omega) (by omega) (by omega) (by omega) (by first | decide | omega) (by first | decide | omega) rfl ?_
  refine r_aload_n dX6_copy_74 rfl (by decide) ?_
  refine r_getr (x := 209) dX6_copy_75 flX6_39 sf49 (by decide) (by decide) rfl rfl ?_
  refine r_iconst dX6_copy_78 (by decide) ?_
  refine r_aload_n dX6_copy_79 rfl (by decide) ?_
  refine r_getr (x := 399) dX6_copy_80 flX6_39 sf239 (by decide) (by decide) rfl rfl ?_
  refine r_iconst dX6_copy_83 (by decide) ?_
  refine r_bipush dX6_copy_84 (by decide) (by decide) ?_
  refine r_copy dX6_copy_86 clX6_99 ay_2 ay_1 ii_System (by decide) (Nat.le_of_ble_eq_true rfl) sf209 sf399 (by decide) (by decide) (by omega) (by omega) (by omega) (by omega) (by omega) (by first | decide | omega) (by first | decide | omega) rfl ?_
  refine r_aload_n dX6_copy_89 rfl (by decide) ?_
  refine r_getr (x := 210) dX6_copy_90 flX6_42 sf49 (by decide) (by decide) rfl rfl ?_
  refine r_iconst dX6_copy_93 (by decide) ?_
  refine r_aload_n dX6_copy_94 rfl (by decide) ?_
  refine r_getr (x := 400) dX6_copy_95 flX6_42 sf239 (by decide) (by decide) rfl rfl ?_
  refine r_iconst dX6_copy_98 (by decide) ?_
  refine r_bipush dX6_copy_99 (by decide) (by decide) ?_
  refine r_copy dX6_copy_101 clX6_99 ay_2 ay_1 ii_System (by decide) (Nat.le_of_ble_eq_true rfl) sf210 sf400 (by decide) (by decide) (by omega) (by omega) (by omega) (by omega) (by omega) (by first | decide | omega) (by first | decide | omega) rfl ?_
  refine r_aload_n dX6_copy_104 rfl (by decide) ?_
  refine r_getr (x := 211) dX6_copy_105 flX6_45 sf49 (by decide) (by decide) rfl rfl ?_
  refine r_iconst dX6_copy_108 (by decide) ?_
  refine r_aload_n dX6_copy_109 rfl (by decide) ?_
  refine r_getr (x := 401) dX6_copy_110 flX6_45 sf239 (by decide) (by decide) rfl rfl ?_
  refine r_iconst dX6_copy_113 (by decide) ?_
  refine r_bipush dX6_copy_114 (by decide) (by decide) ?_
  refine r_copy dX6_copy_116 clX6_99 ay_2 ay_1 ii_System (by decide) (Nat.le_of_ble_eq_true rfl) sf211 sf401 (by decide) (by decide) (by omega) (by omega) (by omega) (by omega) (by omega) (by first | decide | omega) (by first | decide | omega) rfl ?_
  refine r_aload_n dX6_copy_119 rfl (by decide) ?_
  refine r_getr (x := 212) dX6_copy_120 flX6_48 sf49 (by decide) (by decide) rfl rfl ?_
  refine r_iconst dX6_copy_123 (by decide) ?_
  refine r_aload_n dX6_copy_124 rfl (by decide) ?_
  refine r_getr (x := 402) dX6_copy_125 flX6_48 sf239 (by decide) (by decide) rfl rfl ?_
  refine r_iconst dX6_copy_128 (by decide) ?_
  refine r_bipush dX6_copy_129 (by decide) (by decide) ?_
  refine r_copy dX6_copy_131 clX6_99 ay_2 ay_1 ii_System (by decide) (Nat.le_of_ble_eq_true rfl) sf212 sf402 (by decide) (by decide) (by omega) (by omega) (by omega) (by omega) (by omega) (by first | decide | omega) (by first | decide | omega) rfl ?_
  refine r_aload_n dX6_copy_134 rfl (by decide) ?_
  refine r_getr (x := 213) dX6_copy_135 flX6_51 sf49 (by decide) (by decide) rfl rfl ?_
  refine r_iconst dX6_copy_138 (by decide) ?_
  refine r_aload_n dX6_copy_139 rfl (by decide) ?_
  refine r_getr (x := 403) dX6_copy_140 flX6_51 sf239 (by decide) (by decide) rfl rfl ?_
  refine r_iconst dX6_copy_143 (by decide) ?_
  refine r_bipush dX6_copy_144 (by decide) (by decide) ?_
  refine r_copy dX6_copy_146 clX6_99 ay_2 ay_1 ii_System (by decide) (Nat.le_of_ble_eq_true rfl) sf213 sf403 (by decide) (by decide) (by omega) (by omega) (by omega) (by omega) (by omega) (by first | decide | omega) (by first | decide | omega) rfl ?_
  refine r_aload_n dX6_copy_149 rfl (by decide) ?_
  refine r_getr (x := 214) dX6_copy_150 flX6_54 sf49 (by decide) (by decide) rfl rfl ?_
  refine r_iconst dX6_copy_153 (by decide) ?_
  refine r_aload_n dX6_copy_154 rfl (by decide) ?_
  refine r_getr (x := 404) dX6_copy_155 flX6_54 sf239 (by decide) (by decide) rfl rfl ?_
  refine r_iconst dX6_copy_158 (by decide) ?_
  refine r_bipush dX6_copy_159 (by decide) (by decide) ?_
  refine r_copy dX6_copy_161 clX6_99 ay_2 ay_1 ii_System (by decide) (Nat.le_of_ble_eq_true rfl) sf214 sf404 (by decide) (by decide) (by omega) (by omega) (by omega) (by omega) (by omega) (by first | decide | omega) (by first | decide | omega) rfl ?_
  refine V.cm rfl (show _ = sp_i3 M n from rfl) ?_
  refine r_aload_n dX6_copy_164 rfl (by decide) ?_
  refine r_getr (x := 405) dX6_copy_165 flX6_62 sf239 (by decide) (by decide) rfl rfl ?_
  refine r_aload_n dX6_copy_168 rfl (by decide) ?_
  refine r_getr (x := 215) dX6_copy_169 flX6_62 sf49 (by decide) (by decide) rfl rfl ?_
  refine r_cw1 dX6_copy_172 clX6_105 sf405 (by decide) (by decide) rfl (by first | decide | omega) (Nat.le_of_ble_eq_true rfl) ((c_tcopy (l := 8) td_i.1 td_i.2.1 (by decide) (n := M 215 0) (sp_i3o hn30 (by omega)) (hl.1))) ⟨Nat.zero_le _, Nat.zero_le _⟩ ?_
  refine r_aload_n dX6_copy_175 rfl (by decide) ?_
  refine r_getr (x := 409) dX6_copy_176 flX6_66 sf239 (by decide) (by decide) rfl rfl ?_
  refine r_aload_n dX6_copy_179 rfl (by decide) ?_
  refine r_getr (x := 219) dX6_copy_180 flX6_66 sf49 (by decide) (by decide) rfl rfl ?_
  refine r_cw1 dX6_copy_183 clX6_105 sf409 (by decide) (by decide) rfl (by first | decide | omega) (Nat.le_of_ble_eq_true rfl) ((c_tcopy (l := 8) td_i.2.2.1 td_i.2.2.2.1 (by decide) (n := M 219 0) ((tcp_o (by omega)).trans (sp_i3o hn30 (by omega))) (hl.2.1))) ⟨Nat.zero_le _, Nat.zero_le _⟩ ?_
  refine r_aload_n dX6_copy_186 rfl (by decide) ?_
  refine r_getr (x := 413) dX6_copy_187 flX6_69 sf239 (by decide) (by decide) rfl rfl ?_
  refine r_aload_n dX6_copy_190 rfl (by decide) ?_
  refine r_getr (x := 223) dX6_copy_191 flX6_69 sf49 (by decide) (by decide) rfl rfl ?_
  refine r_cw1 dX6_copy_194 clX6_105 sf413 (by decide) (by decide) rfl (by first | decide | omega) (Nat.le_of_ble_eq_true rfl) ((c_tcopy (l := 8) td_i.2.2.2.2.1 td_i.2.2.2.2.2.1 (by decide) (n := M 223 0) ((tcp_o (by omega)).trans ((tcp_o (by omega)).trans (sp_i3o hn30 (by omega)))) (hl.2.2.1))) ⟨Nat.zero_le _, Nat.zero_le _⟩ ?_
  refine r_aload_n dX6_copy_197 rfl (by decide) ?_
  refine r_getr (x := 417) dX6_copy_198 flX6_72 sf239 (by decide) (by decide) rfl rfl ?_
  refine r_aload_n dX6_copy_201 rfl (by decide) ?_
  refine r_getr (x := 227) dX6_copy_202 flX6_72 sf49 (by decide) (by decide) rfl rfl ?_
  refine r_cw1 dX6_copy_205 clX6_105 sf417 (by decide) (by decide) rfl (by first | decide | omega) (Nat.le_of_ble_eq_true rfl) ((c_tcopy (l := 6) td_i.2.2.2.2.2.2.1 td_i.2.2.2.2.2.2.2.1 (by decide) (n := M 227 0) ((tcp_o (by omega)).trans ((tcp_o (by omega)).trans ((tcp_o (by omega)).trans (sp_i3o hn30 (by omega))))) (hl.2.2.2.1))) ⟨Nat.zero_le _, Nat.zero_le _⟩ ?_
  refine r_aload_n dX6_copy_208 rfl (by decide) ?_
  refine r_getr (x := 421) dX6_copy_209 flX6_75 sf239 (by decide) (by decide) rfl rfl ?_
  refine r_aload_n dX6_copy_212 rfl (by decide) ?_
  refine r_getr (x := 231) dX6_copy_213 flX6_75 sf49 (by decide) (by decide) rfl rfl ?_
  refine r_cw1 dX6_copy_216 clX6_105 sf421 (by decide) (by decide) rfl (by first | decide | omega) (Nat.le_of_ble_eq_true rfl) ((c_tcopy (l := 8) td_i.2.2.2.2.2.2.2.2.1 td_i.2.2.2.2.2.2.2.2.2.1 (by decide) (n := M 231 0) ((tcp_o (by omega)).trans ((tcp_o (by omega)).trans ((tcp_o (by omega)).trans ((tcp_o (by omega)).trans (sp_i3o hn30 (by omega)))))) (hl.2.2.2.2.1))) ⟨Nat.zero_le _, Nat.zero_le _⟩ ?_
  refine r_aload_n dX6_copy_219 rfl (by decide) ?_
  refine r_getr (x := 425) dX6_copy_220 flX6_78 sf239 (by decide) (by decide) rfl rfl ?_
  refine r_aload_n dX6_copy_223 rfl (by decide) ?_
  refine r_getr (x := 235) dX6_copy_224 flX6_78 sf49 (by decide) (by decide) rfl rfl ?_
  refine r_cw1 dX6_copy_227 clX6_105 sf425 (by decide) (by decide) rfl (by first | decide | omega) (Nat.le_of_ble_eq_true rfl) ((c_tcopy (l := 8) td_i.2.2.2.2.2.2.2.2.2.2.1 td_i.2.2.2.2.2.2.2.2.2.2.2 (by decide) (n := M 235 0) ((tcp_o (by omega)).trans ((tcp_o (by omega)).trans ((tcp_o (by omega)).trans ((tcp_o (by omega)).trans ((tcp_o (by omega)).trans (sp_i3o hn30 (by omega))))))) (hl.2.2.2.2.2))) ⟨Nat.zero_le _, Nat.zero_le _⟩ ?_
  refine r_ret0 dX6_copy_230 rfl ?_
  exact ⟨rfl, rfl, rfl⟩
/-- so many of the steps copied -/
def sc_b (M : Me) : Nat → Me
  | 0 => up (up M 55 1 0) 55 0 (M 245 0)
  | i + 1 => mcp (sc_b M i) (57 + 5 * (i : Int)) (kp_k M i)
theorem sc_bo {M : Me} {a j : Int} : ∀ i : Nat, i ≤ 30 → ¬ (a = 55 ∨ (57 ≤ a ∧ a < 57 + 5 * (i : Int))) → sc_b M i a j = M a j := by
  intro i
  induction i with
  | zero => intro _ h; exact (up_ne (by omega)).trans (up_ne (by omega))
  | succ i ih => intro hi h; exact (mcp_o (by omega)).trans (ih (by omega) (by omega))
theorem sc_b0 {M : Me} : ∀ i : Nat, i ≤ 30 → sc_b M i 55 0 = M 245 0 ∧ sc_b M i 55 1 = 0 := by
  intro i
  induction i with
  | zero => intro _; exact ⟨up_eq ⟨rfl, rfl⟩, (up_ne (by omega)).trans (up_eq ⟨rfl, rfl⟩)⟩
  | succ i ih => intro hi; exact ⟨(mcp_o (by omega)).trans (ih (by omega)).1, (mcp_o (by omega)).trans (ih (by omega)).2⟩
theorem l_scopy_b {x y z : Int} {M : Me} {n : Nat} (hn : M 245 0 = (n : Int)) (hn30 : n ≤ 30) (hf : 0 ≤ M 245 1 ∧ M 245 1 < 30) : ∀ (m i : Nat), m + i = n → V kX7_copy 0 0 2 none (Ex none (Sf x y z) (sc_b M n)) 15 [(1, 55), (1, 245), (0, (i : Int))] [] (Sf x y z) (sc_b M i) 0 0 := by
  intro m
  induction m with
  | zero =>
    intro i hi
    obtain rfl : i = n := by omega
    have hg0 : sc_b M i 55 0 = (i : Int) := (sc_b0 i (by omega)).1.trans hn
    refine r_iload_n dX7_copy_15 rfl ?_
    refine r_aload_n dX7_copy_16 rfl (by decide) ?_
    refine r_gi 0 dX7_copy_17 flX7_18 sf55 (by decide) (by decide) rfl rfl hg0 ?_
    refine r_icmp_ge (tgt := 42) dX7_copy_20 (by decide) (fun h20 => ?_) (fun h20 => by exfalso; omega)
    refine r_ret0 dX7_copy_42 rfl ?_
    exact ⟨rfl, rfl, rfl⟩
  | succ m ih =>
    intro i hi
    have hg0 : sc_b M i 55 0 = (n : Int) := (sc_b0 i (by omega)).1.trans hn
    have hg1 := (sc_b0 (M := M) i (by omega)).2
    have e1 : sc_b M i 245 1 = M 245 1 := sc_bo i (by omega) (by omega)
    have hkb := kp_kb (M := M) (i := (i : Int))
    refine r_iload_n dX7_copy_15 rfl ?_
    refine r_aload_n dX7_copy_16 rfl (by decide) ?_
    refine r_gi 0 dX7_copy_17 flX7_18 sf55 (by decide) (by decide) rfl rfl hg0 ?_
    refine r_icmp_ge (tgt := 42) dX7_copy_20 (by decide) (fun h20 => by exfalso; omega) (fun h20 => ?_)
    refine r_aload_n dX7_copy_23 rfl (by decide) ?_
    refine r_iload_n dX7_copy_24 rfl ?_
    refine r_cv1 dX7_copy_25 clX7_25 sf55 (by decide) (by decide) rfl (by first | decide | omega) (Nat.le_of_ble_eq_true rfl) ((c_kept_s (by omega) (by rw [hg1]; decide))) ⟨Nat.zero_le _, Nat.zero_le _⟩ (fun _ => ?_)
    rw [show kp_s (sc_b M i) (i : Int) = 57 + 5 * (i : Int) from by unfold kp_s; rw [hg1]; omega]
    refine r_aload_n dX7_copy_28 rfl (by decide) ?_
    refine r_iload_n dX7_copy_29 rfl ?_
    refine r_cv1 dX7_copy_30 clX7_25 sf245 (by decide) (by decide) rfl (by first | decide | omega) (Nat.le_of_ble_eq_true rfl) ((c_kept_k (by omega) (by rw [e1]; exact hf))) ⟨Nat.zero_le _, Nat.zero_le _⟩ (fun _ => ?_)
    rw [show kp_k (sc_b M i) (i : Int) = kp_k M i from by unfold kp_k; rw [e1]]
    refine r_cw1 dX7_copy_33 clX7_29 (ms_s (k := (i : Int)) (by omega)).1 (by omega) (by decide) rfl (by first | decide | omega) (Nat.le_of_ble_eq_true rfl) ((c_mcopy (ms_s (by omega)) ms_kpk (by omega))) ⟨Nat.zero_le _, Nat.zero_le _⟩ ?_
    refine V.cm rfl (show _ = sc_b M (i + 1) from rfl) ?_
    refine r_iinc dX7_copy_36 rfl rfl (by decide) (w32_id (by omega)) st2 ?_
    refine r_goto (tgt := 15) dX7_copy_39 (by decide) ?_
    exact ih (i + 1) (by omega)
theorem c_scopy_b {x y z : Int} {M : Me} {n : Nat} (hn : M 245 0 = (n : Int)) (hn30 : n ≤ 30) (hf : 0 ≤ M 245 1 ∧ M 245 1 < 30) : Con kX7_copy 2 0 0 [(1, 55), (1, 245)] (Sf x y z) M (Ex none (Sf x y z) (sc_b M n)) := by
  refine Con.ofV (al := [(1, 55), (1, 245), (9, 0)]) 1 (by decide) (Nat.le_of_ble_eq_true rfl) rfl ?_
  refine r_aload_n dX7_copy_0 rfl (by decide) ?_
  refine r_iconst dX7_copy_1 (by decide) ?_
  refine r_pi 1 dX7_copy_2 fpX7_22 sf55 (by decide) (by decide) rfl rfl ?_
  refine r_aload_n dX7_copy_5 rfl (by decide) ?_
  refine r_aload_n dX7_copy_6 rfl (by decide) ?_
  refine r_gi 0 dX7_copy_7 flX7_18 sf245 (by decide) (by decide) rfl rfl (up_ne (by omega)) ?_
  refine r_pi 0 dX7_copy_10 fpX7_18 sf55 (by decide) (by decide) rfl rfl ?_
  refine r_iconst dX7_copy_13 (by decide) ?_
  refine r_istore_n dX7_copy_14 rfl (by decide) st2 ?_
  exact l_scopy_b hn hn30 hf n 0 (by omega)
def sp_b1 (M : Me) : Me := mcp (up (up (up M 49 0 (M 239 0)) 49 1 (M 239 1)) 49 2 (M 239 2)) 50 240
def sp_b2 (M : Me) (n : Nat) : Me := sc_b (sp_b1 M) n
def sp_b3 (M : Me) (n : Nat) : Me := (cpy (cpy (cpy (cpy (cpy (cpy (cpy (cpy (sp_b2 M n) 397 0 207 0 5) 398 0 208 0 5) 399 0 209 0 12) 400 0 210 0 12) 401 0 211 0 12) 402 0 212 0 12) 403 0 213 0 12) 404 0 214 0 12)
/-- all that the image holds, copied -/
def sp_b (M : Me) (n : Nat) : Me := (tcp (tcp (tcp (tcp (tcp (tcp (sp_b3 M n) 215 405 (M 405 0)) 219 409 (M 409 0)) 223 413 (M 413 0)) 227 417 (M 417 0)) 231 421 (M 421 0)) 235 425 (M 425 0))
theorem sp_b1o {M : Me} {a j : Int} (h : ¬ (49 ≤ a ∧ a ≤ 54)) : sp_b1 M a j = M a j := by
  unfold sp_b1
  rw [mcp_o (by omega), up_ne (by omega), up_ne (by omega), up_ne (by omega)]
theorem sp_b2o {M : Me} {n : Nat} (hn : n ≤ 30) {a j : Int} (h : ¬ (49 ≤ a ∧ a ≤ 206)) : sp_b2 M n a j = M a j := (sc_bo n hn (by omega)).trans (sp_b1o (by omega))
theorem sp_b3o {M : Me} {n : Nat} (hn : n ≤ 30) {a j : Int} (h : ¬ (49 ≤ a ∧ a ≤ 214)) : sp_b3 M n a j = M a j := by
  unfold sp_b3
  rw [cpy_out (by omega), cpy_out (by omega), cpy_out (by omega), cpy_out (by omega), cpy_out (by omega), cpy_out (by omega), cpy_out (by omega), cpy_out (by omega)]
  exact sp_b2o hn (by omega)
theorem sp_bo {M : Me} {n : Nat} (hn : n ≤ 30) {a j : Int} (h : ¬ (49 ≤ a ∧ a ≤ 238)) : sp_b M n a j = M a j := by
  unfold sp_b
  rw [tcp_o (by omega), tcp_o (by omega), tcp_o (by omega), tcp_o (by omega), tcp_o (by omega), tcp_o (by omega)]
  exact sp_b3o hn (by omega)
set_option maxRecDepth 100000 in
theorem td_b {x y z : Int} : TD (Sf x y z) 215 8 ∧ TD (Sf x y z) 405 8 ∧ TD (Sf x y z) 219 8 ∧ TD (Sf x y z) 409 8 ∧ TD (Sf x y z) 223 8 ∧ TD (Sf x y z) 413 8 ∧ TD (Sf x y z) 227 6 ∧ TD (Sf x y z) 417 6 ∧ TD (Sf x y z) 231 8 ∧ TD (Sf x y z) 421 8 ∧ TD (Sf x y z) 235 8 ∧ TD (Sf x y z) 425 8 := by
  refine ⟨?_, ?_, ?_, ?_, ?_, ?_, ?_, ?_, ?_, ?_, ?_, ?_⟩ <;> exact ⟨rfl, rfl, rfl, rfl, by decide, by decide⟩
theorem c_spcopy_b {x y z : Int} {M : Me} {n : Nat} (hn : M 245 0 = (n : Int)) (hn30 : n ≤ 30) (hf : 0 ≤ M 245 1 ∧ M 245 1 < 30) (hl : (0 ≤ M 405 0 ∧ M 405 0 ≤ 8) ∧ (0 ≤ M 409 0 ∧ M 409 0 ≤ 8) ∧ (0 ≤ M 413 0 ∧ M 413 0 ≤ 8) ∧ (0 ≤ M 417 0 ∧ M 417 0 ≤ 6) ∧ (0 ≤ M 421 0 ∧ M 421 0 ≤ 8) ∧ (0 ≤ M 425 0 ∧ M 425 0 ≤ 8)) : Con kX6_copy 3 0 0 [(1, 49), (1, 239)] (Sf x y z) M (Ex none (Sf x y z) (sp_b M n)) := by
  refine Con.ofV (al := [(1, 49), (1, 239)]) 0 (by decide) (Nat.le_of_ble_eq_true rfl) rfl ?_
  refine r_aload_n dX6_copy_0 rfl (by decide) ?_
  refine r_aload_n dX6_copy_1 rfl (by decide) ?_
  refine r_gi 0 dX6_copy_2 flX6_9 sf239 (by decide) (by decide) rfl rfl rfl ?_
  refine r_pi 0 dX6_copy_5 fpX6_9 sf49 (by decide) (by decide) rfl rfl ?_
  refine r_aload_n dX6_copy_8 rfl (by decide) ?_
  refine r_aload_n dX6_copy_9 rfl (by decide) ?_
  refine r_gi 1 dX6_copy_10 flX6_89 sf239 (by decide) (by decide) rfl rfl (up_ne (by omega)) ?_
  refine r_pi 1 dX6_copy_13 fpX6_89 sf49 (by decide) (by decide) rfl rfl ?_
  refine r_aload_n dX6_copy_16 rfl (by decide) ?_
  refine r_aload_n dX6_copy_17 rfl (by decide) ?_
  refine r_gi 2 dX6_copy_18 flX6_15 sf239 (by decide) (by decide) rfl rfl ((up_ne (by omega)).trans (up_ne (by omega))) ?_
  refine r_pi 2 dX6_copy_21 fpX6_15 sf49 (by decide) (by decide) rfl rfl ?_
  refine r_aload_n dX6_copy_24 rfl (by decide) ?_
  refine r_getr (x := 50) dX6_copy_25 flX6_21 sf49 (by decide) (by decide) rfl rfl ?_
  refine r_aload_n dX6_copy_28 rfl (by decide) ?_
  refine r_getr (x := 240) dX6_copy_29 flX6_21 sf239 (by decide) (by decide) rfl rfl ?_
  refine r_cw1 dX6_copy_32 clX6_92 sf50 (by decide) (by decide) rfl (by first | decide | omega) (Nat.le_of_ble_eq_true rfl) ((c_mcopy ms_50 ms_240 (by decide))) ⟨Nat.zero_le _, Nat.zero_le _⟩ ?_
  refine V.cm rfl (show _ = sp_b1 M from rfl) ?_
  refine r_aload_n dX6_copy_35 rfl (by decide) ?_
  refine r_getr (x := 55) dX6_copy_36 flX6_28 sf49 (by decide) (by decide) rfl rfl ?_
  refine r_aload_n dX6_copy_39 rfl (by decide) ?_
  refine r_getr (x := 245) dX6_copy_40 flX6_28 sf239 (by decide) (by decide) rfl rfl ?_
  refine r_cw1 dX6_copy_43 clX6_96 sf55 (by decide) (by decide) rfl (by first | decide | omega) (Nat.le_of_ble_eq_true rfl) ((c_scopy_b ((sp_b1o (by omega)).trans hn) hn30 (by rw [sp_b1o (by omega)]; exact hf))) ⟨Nat.zero_le _, Nat.zero_le _⟩ ?_
  refine V.cm rfl (show _ = sp_b2 M n from rfl) ?_
  refine r_aload_n dX6_copy_46 rfl (by decide) ?_
  refine r_getr (x := 397) dX6_copy_47 flX6_32 sf239 (by decide) (by decide) rfl rfl ?_
  refine r_iconst dX6_copy_50 (by decide) ?_
  refine r_aload_n dX6_copy_51 rfl (by decide) ?_
  refine r_getr (x := 207) dX6_copy_52 flX6_32 sf49 (by decide) (by decide) rfl rfl ?_
  refine r_iconst dX6_copy_55 (by decide) ?_
  refine r_iconst dX6_copy_56 (by decide) ?_
  refine r_copy dX6_copy_57 clX6_99 ay_2 ay_1 ii_System (by decide) (Nat.le_of_ble_eq_true rfl) sf397 sf207 (by decide) (by decide) (by omega) (by omega) (by omega) (by omega) (by omega) (by first | decide | omega) (by first | decide | omega) rfl ?_
  refine r_aload_n dX6_copy_60 rfl (by decide) ?_
  refine r_getr (x := 398) dX6_copy_61 flX6_36 sf239 (by decide) (by decide) rfl rfl ?_
  refine r_iconst dX6_copy_64 (by decide) ?_
  refine r_aload_n dX6_copy_65 rfl (by decide) ?_
  refine r_getr (x := 208) dX6_copy_66 flX6_36 sf49 (by decide) (by decide) rfl rfl ?_
  refine r_iconst dX6_copy_69 (by decide) ?_
  refine r_iconst dX6_copy_70 (by decide) ?_
  refine r_copy dX6_copy_71 clX6_99 ay_2 ay_1 ii_System (by decide) (Nat.le_of_ble_eq_true rfl) sf398 sf208 (by decide) (by decide) (by omega) (by omega) (by omega) (by omega) (by omega) (by first | decide | omega) (by first | decide | omega) rfl ?_
  refine r_aload_n dX6_copy_74 rfl (by decide) ?_
  refine r_getr (x := 399) dX6_copy_75 flX6_39 sf239 (by decide) (by decide) rfl rfl ?_
  refine r_iconst dX6_copy_78 (by decide) ?_
  refine r_aload_n dX6_copy_79 rfl (by decide) ?_
  refine r_getr (x := 209) dX6_copy_80 flX6_39 sf49 (by decide) (by decide) rfl rfl ?_
  refine r_iconst dX6_copy_83 (by decide) ?_
  refine r_bipush dX6_copy_84 (by decide) (by decide) ?_
  refine r_copy dX6_copy_86 clX6_99 ay_2 ay_1 ii_System (by decide) (Nat.le_of_ble_eq_true rfl) sf399 sf209 (by decide) (by decide) (by omega) (by omega) (by omega) (by omega) (by omega) (by first | decide | omega) (by first | decide | omega) rfl ?_
  refine r_aload_n dX6_copy_89 rfl (by decide) ?_
  refine r_getr (x := 400) dX6_copy_90 flX6_42 sf239 (by decide) (by decide) rfl rfl ?_
  refine r_iconst dX6_copy_93 (by decide) ?_
  refine r_aload_n dX6_copy_94 rfl (by decide) ?_
  refine r_getr (x := 210) dX6_copy_95 flX6_42 sf49 (by decide) (by decide) rfl rfl ?_
  refine r_iconst dX6_copy_98 (by decide) ?_
  refine r_bipush dX6_copy_99 (by decide) (by decide) ?_
  refine r_copy dX6_copy_101 clX6_99 ay_2 ay_1 ii_System (by decide) (Nat.le_of_ble_eq_true rfl) sf400 sf210 (by decide) (by decide) (by omega) (by omega) (by omega) (by omega) (by omega) (by first | decide | omega) (by first | decide | omega) rfl ?_
  refine r_aload_n dX6_copy_104 rfl (by decide) ?_
  refine r_getr (x := 401) dX6_copy_105 flX6_45 sf239 (by decide) (by decide) rfl rfl ?_
  refine r_iconst dX6_copy_108 (by decide) ?_
  refine r_aload_n dX6_copy_109 rfl (by decide) ?_
  refine r_getr (x := 211) dX6_copy_110 flX6_45 sf49 (by decide) (by decide) rfl rfl ?_
  refine r_iconst dX6_copy_113 (by decide) ?_
  refine r_bipush dX6_copy_114 (by decide) (by decide) ?_
  refine r_copy dX6_copy_116 clX6_99 ay_2 ay_1 ii_System (by decide) (Nat.le_of_ble_eq_true rfl) sf401 sf211 (by decide) (by decide) (by omega) (by omega) (by omega) (by omega) (by omega) (by first | decide | omega) (by first | decide | omega) rfl ?_
  refine r_aload_n dX6_copy_119 rfl (by decide) ?_
  refine r_getr (x := 402) dX6_copy_120 flX6_48 sf239 (by decide) (by decide) rfl rfl ?_
  refine r_iconst dX6_copy_123 (by decide) ?_
  refine r_aload_n dX6_copy_124 rfl (by decide) ?_
  refine r_getr (x := 212) dX6_copy_125 flX6_48 sf49 (by decide) (by decide) rfl rfl ?_
  refine r_iconst dX6_copy_128 (by decide) ?_
  refine r_bipush dX6_copy_129 (by decide) (by decide) ?_
  refine r_copy dX6_copy_131 clX6_99 ay_2 ay_1 ii_System (by decide) (Nat.le_of_ble_eq_true rfl) sf402 sf212 (by decide) (by decide) (by omega) (by omega) (by omega) (by omega) (by omega) (by first | decide | omega) (by first | decide | omega) rfl ?_
  refine r_aload_n dX6_copy_134 rfl (by decide) ?_
  refine r_getr (x := 403) dX6_copy_135 flX6_51 sf239 (by decide) (by decide) rfl rfl ?_
  refine r_iconst dX6_copy_138 (by decide) ?_
  refine r_aload_n dX6_copy_139 rfl (by decide) ?_
  refine r_getr (x := 213) dX6_copy_140 flX6_51 sf49 (by decide) (by decide) rfl rfl ?_
  refine r_iconst dX6_copy_143 (by decide) ?_
  refine r_bipush dX6_copy_144 (by decide) (by decide) ?_
  refine r_copy dX6_copy_146 clX6_99 ay_2 ay_1 ii_System (by decide) (Nat.le_of_ble_eq_true rfl) sf403 sf213 (by decide) (by decide) (by omega) (by omega) (by omega) (by omega) (by omega) (by first | decide | omega) (by first | decide | omega) rfl ?_
  refine r_aload_n dX6_copy_149 rfl (by decide) ?_
  refine r_getr (x := 404) dX6_copy_150 flX6_54 sf239 (by decide) (by decide) rfl rfl ?_
  refine r_iconst dX6_copy_153 (by decide) ?_
  refine r_aload_n dX6_copy_154 rfl (by decide) ?_
  refine r_getr (x := 214) dX6_copy_155 flX6_54 sf49 (by decide) (by decide) rfl rfl ?_
  refine r_iconst dX6_copy_158 (by decide) ?_
  refine r_bipush dX6_copy_159 (by decide) (by decide) ?_
  refine r_copy dX6_copy_161 clX6_99 ay_2 ay_1 ii_System (by decide) (Nat.le_of_ble_eq_true rfl) sf404 sf214 (by decide) (by decide) (by omega) (by omega) (by omega) (by omega) (by omega) (by first | decide | omega) (by first | decide | omega) rfl ?_
  refine V.cm rfl (show _ = sp_b3 M n from rfl) ?_
  refine r_aload_n dX6_copy_164 rfl (by decide) ?_
  refine r_getr (x := 215) dX6_copy_165 flX6_62 sf49 (by decide) (by decide) rfl rfl ?_
  refine r_aload_n dX6_copy_168 rfl (by decide) ?_
  refine r_getr (x := 405) dX6_copy_169 flX6_62 sf239 (by decide) (by decide) rfl rfl ?_
  refine r_cw1 dX6_copy_172 clX6_105 sf215 (by decide) (by decide) rfl (by first | decide | omega) (Nat.le_of_ble_eq_true rfl) ((c_tcopy (l := 8) td_b.1 td_b.2.1 (by decide) (n := M 405 0) (sp_b3o hn30 (by omega)) (hl.1))) ⟨Nat.zero_le _, Nat.zero_le _⟩ ?_
  refine r_aload_n dX6_copy_175 rfl (by decide) ?_
  refine r_getr (x := 219) dX6_copy_176 flX6_66 sf49 (by decide) (by decide) rfl rfl ?_
  refine r_aload_n dX6_copy_179 rfl (by decide) ?_
  refine r_getr (x := 409) dX6_copy_180 flX6_66 sf239 (by decide) (by decide) rfl rfl ?_
  refine r_cw1 dX6_copy_183 clX6_105 sf219 (by decide) (by decide) rfl (by first | decide | omega) (Nat.le_of_ble_eq_true rfl) ((c_tcopy (l := 8) td_b.2.2.1 td_b.2.2.2.1 (by decide) (n := M 409 0) ((tcp_o (by omega)).trans (sp_b3o hn30 (by omega))) (hl.2.1))) ⟨Nat.zero_le _, Nat.zero_le _⟩ ?_
  refine r_aload_n dX6_copy_186 rfl (by decide) ?_
  refine r_getr (x := 223) dX6_copy_187 flX6_69 sf49 (by decide) (by decide) rfl rfl ?_
  refine r_aload_n dX6_copy_190 rfl (by decide) ?_
  refine r_getr (x := 413) dX6_copy_191 flX6_69 sf239 (by decide) (by decide) rfl rfl ?_
  refine r_cw1 dX6_copy_194 clX6_105 sf223 (by decide) (by decide) rfl (by first | decide | omega) (Nat.le_of_ble_eq_true rfl) ((c_tcopy (l := 8) td_b.2.2.2.2.1 td_b.2.2.2.2.2.1 (by decide) (n := M 413 0) ((tcp_o (by omega)).trans ((tcp_o (by omega)).trans (sp_b3o hn30 (by omega)))) (hl.2.2.1))) ⟨Nat.zero_le _, Nat.zero_le _⟩ ?_
  refine r_aload_n dX6_copy_197 rfl (by decide) ?_
  refine r_getr (x := 227) dX6_copy_198 flX6_72 sf49 (by decide) (by decide) rfl rfl ?_
  refine r_aload_n dX6_copy_201 rfl (by decide) ?_
  refine r_getr (x := 417) dX6_copy_202 flX6_72 sf239 (by decide) (by decide) rfl rfl ?_
  refine r_cw1 dX6_copy_205 clX6_105 sf227 (by decide) (by decide) rfl (by first | decide | omega) (Nat.le_of_ble_eq_true rfl) ((c_tcopy (l := 6) td_b.2.2.2.2.2.2.1 td_b.2.2.2.2.2.2.2.1 (by decide) (n := M 417 0) ((tcp_o (by omega)).trans ((tcp_o (by omega)).trans ((tcp_o (by omega)).trans (sp_b3o hn30 (by omega))))) (hl.2.2.2.1))) ⟨Nat.zero_le _, Nat.zero_le _⟩ ?_
  refine r_aload_n dX6_copy_208 rfl (by decide) ?_
  refine r_getr (x := 231) dX6_copy_209 flX6_75 sf49 (by decide) (by decide) rfl rfl ?_
  refine r_aload_n dX6_copy_212 rfl (by decide) ?_
  refine r_getr (x := 421) dX6_copy_213 flX6_75 sf239 (by decide) (by decide) rfl rfl ?_
  refine r_cw1 dX6_copy_216 clX6_105 sf231 (by decide) (by decide) rfl (by first | decide | omega) (Nat.le_of_ble_eq_true rfl) ((c_tcopy (l := 8) td_b.2.2.2.2.2.2.2.2.1 td_b.2.2.2.2.2.2.2.2.2.1 (by decide) (n := M 421 0) ((tcp_o (by omega)).trans ((tcp_o (by omega)).trans ((tcp_o (by omega)).trans ((tcp_o (by omega)).trans (sp_b3o hn30 (by omega)))))) (hl.2.2.2.2.1))) ⟨Nat.zero_le _, Nat.zero_le _⟩ ?_
  refine r_aload_n dX6_copy_219 rfl (by decide) ?_
  refine r_getr (x := 235) dX6_copy_220 flX6_78 sf49 (by decide) (by decide) rfl rfl ?_
  refine r_aload_n dX6_copy_223 rfl (by decide) ?_
  refine r_getr (x := 425) dX6_copy_224 flX6_78 sf239 (by decide) (by decide) rfl rfl ?_
  refine r_cw1 dX6_copy_227 clX6_105 sf235 (by decide) (by decide) rfl (by first | decide | omega) (Nat.le_of_ble_eq_true rfl) ((c_tcopy (l := 8) td_b.2.2.2.2.2.2.2.2.2.2.1 td_b.2.2.2.2.2.2.2.2.2.2.2 (by decide) (n := M 425 0) ((tcp_o (by omega)).trans ((tcp_o (by omega)).trans ((tcp_o (by omega)).trans ((tcp_o (by omega)).trans ((tcp_o (by omega)).trans (sp_b3o hn30 (by omega))))))) (hl.2.2.2.2.2))) ⟨Nat.zero_le _, Nat.zero_le _⟩ ?_
  refine r_ret0 dX6_copy_230 rfl ?_
  exact ⟨rfl, rfl, rfl⟩
