def adC (M : Me) (x k v : Int) : Me := if M x 1 < 300 then up (up M (x + 2) (M x 1) (or32 (shl32 v 6) k)) x 1 (M x 1 + 1) else M
def amC (M : Me) (x j : Int) : Me := if 0 ≤ j ∧ j < M x 1 then up M (x + 2) j (or32 (shl32 (M x 1) 6) (and32 (M (x + 2) j) 63)) else M
def beC (M : Me) (x k : Int) : Me := if M x 0 < 24 then up (up M (x + 3) (M x 0) k) x 0 (M x 0 + 1) else M
def teC (M : Me) (x i v : Int) : Me := if 0 < M x 0 ∧ 0 ≤ i ∧ i < 3 then up M (x + 5 + i) (M x 0 - 1) v else M
def emC (M : Me) (x : Int) : Me := row1 (up (up M x 0 0) x 1 0) (x + 1) 3 (fun _ => -1)
def rfC (M : Me) (w : Int) : Me := up (up M 2 1 w) 2 2 (M 2 6)
theorem c_add {x y z : Int} {M : Me} (hq : TS (Sf x y z) x) (hx : 15 ≤ x ∧ x ≤ 39) {k v : Int} (h1 : 0 ≤ M x 1 ∧ M x 1 ≤ 300) : Con kX8_add 0 0 0 [(1, x), (0, k), (0, v)] (Sf x y z) M (Ex none (Sf x y z) (adC M x k v)) := by
  refine Con.ofV (al := [(1, x), (0, k), (0, v)]) 0 (by decide) (Nat.le_of_ble_eq_true rfl) rfl ?_
  obtain ⟨x0, x1, x2, x3, x4, x5, x6, x7, -⟩ := id hq
  refine r_aload_n dX8_add_0 rfl (by omega) ?_
  refine r_gi 1 dX8_add_1 flX8_30 x0 (by decide) (by omega) rfl rfl rfl ?_
  refine r_aload_n dX8_add_4 rfl (by omega) ?_
  refine r_getr (x := x + 2) dX8_add_5 flX8_15 x0 (by decide) (by omega) rfl rfl ?_
  refine r_alen dX8_add_8 x2 (by decide) (by decide) (by omega) (by first | decide | omega) rfl ?_
  refine r_icmp_ge (tgt := 37) dX8_add_9 (by decide) (fun h9 => ?_) (fun h9 => ?_)
  · refine r_ret0 dX8_add_37 rfl ?_
    first | exact ⟨rfl, rfl, (if_pos (by omega)).symm⟩ | exact ⟨rfl, rfl, (if_neg (by omega)).symm⟩
  · refine r_aload_n dX8_add_12 rfl (by omega) ?_
    refine r_getr (x := x + 2) dX8_add_13 flX8_15 x0 (by decide) (by omega) rfl rfl ?_
    refine r_aload_n dX8_add_16 rfl (by omega) ?_
    refine r_gi 1 dX8_add_17 flX8_30 x0 (by decide) (by omega) rfl rfl rfl ?_
    refine r_iload_n dX8_add_20 rfl ?_
    refine r_bipush dX8_add_21 (by decide) (by decide) ?_
    refine r_ishl dX8_add_23 rfl ?_
    refine r_iload_n dX8_add_24 rfl ?_
    refine r_ior dX8_add_25 rfl ?_
    refine r_iast dX8_add_26 x2 (by omega) (by omega) (by omega) (by decide) rfl ?_
    refine r_aload_n dX8_add_27 rfl (by omega) ?_
    refine r_dup dX8_add_28 (Nat.ne_of_beq_eq_false rfl) ?_
    refine r_gi 1 dX8_add_29 flX8_30 x0 (by decide) (by omega) rfl rfl (up_ne (by omega)) ?_
    refine r_iconst dX8_add_32 (by decide) ?_
    refine r_iadd dX8_add_33 (w32_id (by omega)) ?_
    refine r_pi 1 dX8_add_34 fpX8_30 x0 (by decide) (by omega) rfl rfl ?_
    refine r_ret0 dX8_add_37 rfl ?_
    first | exact ⟨rfl, rfl, (if_pos (by omega)).symm⟩ | exact ⟨rfl, rfl, (if_neg (by omega)).symm⟩
theorem c_aim {x y z : Int} {M : Me} (hq : TS (Sf x y z) x) (hx : 15 ≤ x ∧ x ≤ 39) {j : Int} (h1 : 0 ≤ M x 1 ∧ M x 1 ≤ 300) : Con kX8_aim 0 0 0 [(1, x), (0, j)] (Sf x y z) M (Ex none (Sf x y z) (amC M x j)) := by
  refine Con.ofV (al := [(1, x), (0, j)]) 0 (by decide) (Nat.le_of_ble_eq_true rfl) rfl ?_
  obtain ⟨x0, x1, x2, x3, x4, x5, x6, x7, -⟩ := id hq
  refine r_iload_n dX8_aim_0 rfl ?_
  refine r_if_lt (tgt := 35) dX8_aim_1 (by decide) (fun h1 => ?_) (fun h1 => ?_)
  · refine r_ret0 dX8_aim_35 rfl ?_
    first | exact ⟨rfl, rfl, (if_pos (by omega)).symm⟩ | exact ⟨rfl, rfl, (if_neg (by omega)).symm⟩
  · refine r_iload_n dX8_aim_4 rfl ?_
    refine r_aload_n dX8_aim_5 rfl (by omega) ?_
    refine r_gi 1 dX8_aim_6 flX8_30 x0 (by decide) (by omega) rfl rfl rfl ?_
    refine r_icmp_ge (tgt := 35) dX8_aim_9 (by decide) (fun h9 => ?_) (fun h9 => ?_)
    · refine r_ret0 dX8_aim_35 rfl ?_
      first | exact ⟨rfl, rfl, (if_pos (by omega)).symm⟩ | exact ⟨rfl, rfl, (if_neg (by omega)).symm⟩
    · refine r_aload_n dX8_aim_12 rfl (by omega) ?_
      refine r_getr (x := x + 2) dX8_aim_13 flX8_15 x0 (by decide) (by omega) rfl rfl ?_
      refine r_iload_n dX8_aim_16 rfl ?_
      refine r_aload_n dX8_aim_17 rfl (by omega) ?_
      refine r_gi 1 dX8_aim_18 flX8_30 x0 (by decide) (by omega) rfl rfl rfl ?_
      refine r_bipush dX8_aim_21 (by decide) (by decide) ?_
      refine r_ishl dX8_aim_23 rfl ?_
      refine r_aload_n dX8_aim_24 rfl (by omega) ?_
      refine r_getr (x := x + 2) dX8_aim_25 flX8_15 x0 (by decide) (by omega) rfl rfl ?_
      refine r_iload_n dX8_aim_28 rfl ?_
      refine r_iald dX8_aim_29 x2 (by omega) (by omega) (by omega) (by decide) rfl ?_
      refine r_bipush dX8_aim_30 (by decide) (by decide) ?_
      refine r_iand dX8_aim_32 rfl ?_
      refine r_ior dX8_aim_33 rfl ?_
      refine r_iast dX8_aim_34 x2 (by omega) (by omega) (by omega) (by decide) rfl ?_
      refine r_ret0 dX8_aim_35 rfl ?_
      first | exact ⟨rfl, rfl, (if_pos (by omega)).symm⟩ | exact ⟨rfl, rfl, (if_neg (by omega)).symm⟩
theorem c_begin {x y z : Int} {M : Me} (hq : TS (Sf x y z) x) (hx : 15 ≤ x ∧ x ≤ 39) {k : Int} (h0 : 0 ≤ M x 0 ∧ M x 0 ≤ 24) : Con kX8_begin 0 0 0 [(1, x), (0, k)] (Sf x y z) M (Ex none (Sf x y z) (beC M x k)) := by
  refine Con.ofV (al := [(1, x), (0, k)]) 0 (by decide) (Nat.le_of_ble_eq_true rfl) rfl ?_
  obtain ⟨x0, x1, x2, x3, x4, x5, x6, x7, -⟩ := id hq
  refine r_aload_n dX8_begin_0 rfl (by omega) ?_
  refine r_gi 0 dX8_begin_1 flX8_26 x0 (by decide) (by omega) rfl rfl rfl ?_
  refine r_bipush dX8_begin_4 (by decide) (by decide) ?_
  refine r_icmp_ge (tgt := 29) dX8_begin_6 (by decide) (fun h6 => ?_) (fun h6 => ?_)
  · refine r_ret0 dX8_begin_29 rfl ?_
    first | exact ⟨rfl, rfl, (if_pos (by omega)).symm⟩ | exact ⟨rfl, rfl, (if_neg (by omega)).symm⟩
  · refine r_aload_n dX8_begin_9 rfl (by omega) ?_
    refine r_getr (x := x + 3) dX8_begin_10 flX8_18 x0 (by decide) (by omega) rfl rfl ?_
    refine r_aload_n dX8_begin_13 rfl (by omega) ?_
    refine r_gi 0 dX8_begin_14 flX8_26 x0 (by decide) (by omega) rfl rfl rfl ?_
    refine r_iload_n dX8_begin_17 rfl ?_
    refine r_iast dX8_begin_18 x3 (by omega) (by omega) (by omega) (by decide) rfl ?_
    refine r_aload_n dX8_begin_19 rfl (by omega) ?_
    refine r_dup dX8_begin_20 (Nat.ne_of_beq_eq_false rfl) ?_
    refine r_gi 0 dX8_begin_21 flX8_26 x0 (by decide) (by omega) rfl rfl (up_ne (by omega)) ?_
    refine r_iconst dX8_begin_24 (by decide) ?_
    refine r_iadd dX8_begin_25 (w32_id (by omega)) ?_
    refine r_pi 0 dX8_begin_26 fpX8_26 x0 (by decide) (by omega) rfl rfl ?_
    refine r_ret0 dX8_begin_29 rfl ?_
    first | exact ⟨rfl, rfl, (if_pos (by omega)).symm⟩ | exact ⟨rfl, rfl, (if_neg (by omega)).symm⟩
theorem nr_r {x i : Int} (h : 0 ≤ i ∧ i < 3) : ([x + 5, x + 6, x + 7] : List Int).getD i.toNat (-1) = x + 5 + i := by
  rcases (show i = 0 ∨ i = 1 ∨ i = 2 by omega) with q | q | q <;> subst q
  · show x + 5 = _; omega
  · show x + 6 = _; omega
  · show x + 7 = _; omega
theorem nr_s {S : Sh} {x i : Int} (h : 0 ≤ i ∧ i < 3) (hq : TS S x) : S[(x + 5 + i).toNat]? = some (20, 24, []) := by
  rcases (show i = 0 ∨ i = 1 ∨ i = 2 by omega) with q | q | q <;> subst q
  · rw [show x + 5 + 0 = x + 5 by omega]; exact hq.2.2.2.2.2.1
  · rw [show x + 5 + 1 = x + 6 by omega]; exact hq.2.2.2.2.2.2.1
  · rw [show x + 5 + 2 = x + 7 by omega]; exact hq.2.2.2.2.2.2.2.1
theorem c_tell {x y z : Int} {M : Me} (hq : TS (Sf x y z) x) (hx : 15 ≤ x ∧ x ≤ 39) {i v : Int} (h0 : 0 ≤ M x 0 ∧ M x 0 ≤ 24) : Con kX8_tell 0 0 0 [(1, x), (0, i), (0, v)] (Sf x y z) M (Ex none (Sf x y z) (teC M x i v)) := by
  refine Con.ofV (al := [(1, x), (0, i), (0, v)]) 0 (by decide) (Nat.le_of_ble_eq_true rfl) rfl ?_
  obtain ⟨x0, x1, x2, x3, x4, x5, x6, x7, -⟩ := id hq
  refine r_aload_n dX8_tell_0 rfl (by omega) ?_
  refine r_gi 0 dX8_tell_1 flX8_26 x0 (by decide) (by omega) rfl rfl rfl ?_
  refine r_if_le (tgt := 30) dX8_tell_4 (by decide) (fun h4 => ?_) (fun h4 => ?_)
  · refine r_ret0 dX8_tell_30 rfl ?_
    first | exact ⟨rfl, rfl, (if_pos (by omega)).symm⟩ | exact ⟨rfl, rfl, (if_neg (by omega)).symm⟩
  · refine r_iload_n dX8_tell_7 rfl ?_
    refine r_if_lt (tgt := 30) dX8_tell_8 (by decide) (fun h8 => ?_) (fun h8 => ?_)
    · refine r_ret0 dX8_tell_30 rfl ?_
      first | exact ⟨rfl, rfl, (if_pos (by omega)).symm⟩ | exact ⟨rfl, rfl, (if_neg (by omega)).symm⟩
    · refine r_iload_n dX8_tell_11 rfl ?_
      refine r_iconst dX8_tell_12 (by decide) ?_
      refine r_icmp_ge (tgt := 30) dX8_tell_13 (by decide) (fun h13 => ?_) (fun h13 => ?_)
      · refine r_ret0 dX8_tell_30 rfl ?_
        first | exact ⟨rfl, rfl, (if_pos (by omega)).symm⟩ | exact ⟨rfl, rfl, (if_neg (by omega)).symm⟩
      · refine r_aload_n dX8_tell_16 rfl (by omega) ?_
        refine r_getr (x := x + 4) dX8_tell_17 flX8_23 x0 (by decide) (by omega) rfl rfl ?_
        refine r_iload_n dX8_tell_20 rfl ?_
        refine r_aald dX8_tell_21 x4 (by decide) (by decide) (by omega) (by omega) (by omega) (by decide) (nr_r (by omega)) ?_
        refine r_aload_n dX8_tell_22 rfl (by omega) ?_
        refine r_gi 0 dX8_tell_23 flX8_26 x0 (by decide) (by omega) rfl rfl rfl ?_
        refine r_iconst dX8_tell_26 (by decide) ?_
        refine r_isub dX8_tell_27 (w32_id (by omega)) ?_
        refine r_iload_n dX8_tell_28 rfl ?_
        refine r_iast dX8_tell_29 (nr_s (by omega) hq) (by omega) (by omega) (by omega) (by decide) rfl ?_
        refine r_ret0 dX8_tell_30 rfl ?_
        first | exact ⟨rfl, rfl, (if_pos (by omega)).symm⟩ | exact ⟨rfl, rfl, (if_neg (by omega)).symm⟩
theorem l_empty {x y z : Int} {M : Me} (hq : TS (Sf x y z) x) (hx : 15 ≤ x ∧ x ≤ 39) : ∀ (m i : Nat), m + i = 3 → V kX8_empty 0 0 0 none (Ex none (Sf x y z) (emC M x)) 12 [(1, x), (0, (i : Int))] [] (Sf x y z) (row1 (up (up M x 0 0) x 1 0) (x + 1) 3 (fun j => if j < (i : Int) then -1 else M (x + 1) j)) 0 0 := by
  obtain ⟨x0, x1, x2, x3, x4, x5, x6, x7, -⟩ := id hq
  intro m
  induction m with
  | zero =>
    intro i hi
    obtain rfl : i = 3 := by omega
    refine r_iload_n dX8_empty_12 rfl ?_
    refine r_iconst dX8_empty_13 (by decide) ?_
    refine r_icmp_ge (tgt := 30) dX8_empty_14 (by decide) (fun h14 => ?_) (fun h14 => by exfalso; omega)
    refine r_ret0 dX8_empty_30 rfl ?_
    exact ⟨rfl, rfl, row1_c (fun j h0 h1 => if_pos (by omega))⟩
  | succ m ih =>
    intro i hi
    refine r_iload_n dX8_empty_12 rfl ?_
    refine r_iconst dX8_empty_13 (by decide) ?_
    refine r_icmp_ge (tgt := 30) dX8_empty_14 (by decide) (fun h14 => by exfalso; omega) (fun h14 => ?_)
    refine r_aload_n dX8_empty_17 rfl (by omega) ?_
    refine r_getr (x := x + 1) dX8_empty_18 flX8_9 x0 (by decide) (by omega) rfl rfl ?_
    refine r_iload_n dX8_empty_21 rfl ?_
    refine r_iconst dX8_empty_22 (by decide) ?_
    refine r_iast dX8_empty_23 x1 (by omega) (by omega) (by omega) (by decide) rfl ?_
    refine V.cm rfl (row1_up (X' := fun j => if j < ((i + 1 : Nat) : Int) then -1 else M (x + 1) j) (by omega) (fun j h0 h1 => by by_cases e : j = (i : Int); (rw [if_pos e, if_pos (by omega)]); (rw [if_neg e]; by_cases e2 : j < (i : Int); (rw [if_pos e2, if_pos (by omega)]); (rw [if_neg e2, if_neg (by omega)])))) ?_
    refine r_iinc dX8_empty_24 rfl rfl (by decide) (w32_id (by omega)) st1 ?_
    refine r_goto (tgt := 12) dX8_empty_27 (by decide) ?_
    exact ih (i + 1) (by omega)
theorem c_empty {x y z : Int} {M : Me} (hq : TS (Sf x y z) x) (hx : 15 ≤ x ∧ x ≤ 39)  : Con kX8_empty 0 0 0 [(1, x)] (Sf x y z) M (Ex none (Sf x y z) (emC M x)) := by
  refine Con.ofV (al := [(1, x), (9, 0)]) 1 (by decide) (Nat.le_of_ble_eq_true rfl) rfl ?_
  obtain ⟨x0, x1, x2, x3, x4, x5, x6, x7, -⟩ := id hq
  refine r_aload_n dX8_empty_0 rfl (by omega) ?_
  refine r_iconst dX8_empty_1 (by decide) ?_
  refine r_pi 0 dX8_empty_2 fpX8_26 x0 (by decide) (by omega) rfl rfl ?_
  refine r_aload_n dX8_empty_5 rfl (by omega) ?_
  refine r_iconst dX8_empty_6 (by decide) ?_
  refine r_pi 1 dX8_empty_7 fpX8_30 x0 (by decide) (by omega) rfl rfl ?_
  refine r_iconst dX8_empty_10 (by decide) ?_
  refine r_istore_n dX8_empty_11 rfl (by decide) st1 ?_
  exact V.cm rfl (row1_id.trans (row1_c (fun j h0 h1 => by rw [if_neg (by omega), up_ne (by omega), up_ne (by omega)]))) (l_empty hq hx 3 0 rfl)
theorem c_refuse {x y z : Int} {M : Me} {w : Int} : Con kX4_refuse 0 0 0 [(1, 2), (0, w)] (Sf x y z) M (Ex (some (0, 0)) (Sf x y z) (rfC M w)) := by
  refine Con.ofV (al := [(1, 2), (0, w)]) 0 (by decide) (Nat.le_of_ble_eq_true rfl) rfl ?_
  refine r_aload_n dX4_refuse_0 rfl (by decide) ?_
  refine r_iload_n dX4_refuse_1 rfl ?_
  refine r_pi 1 dX4_refuse_2 fpX4_9 sf2 (by decide) (by decide) rfl rfl ?_
  refine r_aload_n dX4_refuse_5 rfl (by decide) ?_
  refine r_aload_n dX4_refuse_6 rfl (by decide) ?_
  refine r_gi 6 dX4_refuse_7 flX4_47 sf2 (by decide) (by decide) rfl rfl (up_ne (by omega)) ?_
  refine r_pi 2 dX4_refuse_10 fpX4_15 sf2 (by decide) (by decide) rfl rfl ?_
  refine r_iconst dX4_refuse_13 (by decide) ?_
  refine r_zret dX4_refuse_14 rfl (by omega) ?_
  exact ⟨rfl, rfl, rfl⟩
/-- what the class's reading keeps to -/
def PR (M : Me) (x : Int) (n : Nat) : Prop := M 2 0 = (n : Int) ∧ n ≤ 300 ∧ (0 ≤ M 2 5 ∧ M 2 5 ≤ n) ∧ (0 ≤ M x 1 ∧ M x 1 ≤ 300) ∧ (0 ≤ M x 0 ∧ M x 0 ≤ 24)
theorem goC_5 {M : Me} {n : Nat} (h0 : M 2 0 = (n : Int)) (h5 : 0 ≤ M 2 5 ∧ M 2 5 ≤ n) : 0 ≤ goC M n 2 5 ∧ goC M n 2 5 ≤ n := by
  have hb := skC_b (M := M) (n - M 2 5).toNat (M 2 5)
  unfold goC
  generalize skC M (n - M 2 5).toNat (M 2 5) = s at hb ⊢
  have h1 := nuC_b (M := M) (n - s).toNat s 0
  have h2 := wlE_b (M := M) (n - s).toNat s
  have h3 : orC M s = 0 ∨ orC M s = 1 := by unfold orC; split <;> omega
  have h4 : orC M s = 1 → s + 1 < (n : Int) := fun q => by
    have : btc M (s + 1) = 61 ∧ (btc M s = 60 ∨ btc M s = 62) := Classical.byContradiction fun w => by
      unfold orC at q
      rw [if_neg w] at q
      omega
    have h9 : ¬ M 2 0 ≤ s + 1 := fun w => by rw [btc_e w] at this; omega
    omega
  unfold goS2
  (repeat' split) <;> rw [tc_r5] <;> omega
theorem PR.go {M : Me} {x : Int} {n : Nat} (h : PR M x n) (hx : 15 ≤ x ∧ x ≤ 39) : PR (goC M n) x n := ⟨(goC_o (by omega)).trans h.1, h.2.1, goC_5 h.1 h.2.2.1, by rw [goC_o (by omega)]; exact h.2.2.2.1, by rw [goC_o (by omega)]; exact h.2.2.2.2⟩
theorem PR.rf {M : Me} {x : Int} {n : Nat} (h : PR M x n) (hx : 15 ≤ x ∧ x ≤ 39) {w : Int} : PR (rfC M w) x n := by
  unfold rfC PR
  rw [up_ne (by omega), up_ne (by omega), up_ne (by omega), up_ne (by omega), up_ne (by omega), up_ne (by omega), up_ne (by omega), up_ne (by omega)]
  exact h
theorem PR.ad {M : Me} {x : Int} {n : Nat} (h : PR M x n) (hx : 15 ≤ x ∧ x ≤ 39) {k v : Int} : PR (adC M x k v) x n := by
  unfold adC
  split
  · refine ⟨(up_ne (by omega)).trans ((up_ne (by omega)).trans h.1), h.2.1, by rw [up_ne (by omega), up_ne (by omega)]; exact h.2.2.1, by rw [up_eq ⟨rfl, rfl⟩]; have := h.2.2.2.1; omega, by rw [up_ne (by omega), up_ne (by omega)]; exact h.2.2.2.2⟩
  · exact h
theorem PR.am {M : Me} {x : Int} {n : Nat} (h : PR M x n) (hx : 15 ≤ x ∧ x ≤ 39) {j : Int} : PR (amC M x j) x n := by
  unfold amC
  split
  · exact ⟨(up_ne (by omega)).trans h.1, h.2.1, by rw [up_ne (by omega)]; exact h.2.2.1, by rw [up_ne (by omega)]; exact h.2.2.2.1, by rw [up_ne (by omega)]; exact h.2.2.2.2⟩
  · exact h
theorem PR.te {M : Me} {x : Int} {n : Nat} (h : PR M x n) (hx : 15 ≤ x ∧ x ≤ 39) {i v : Int} : PR (teC M x i v) x n := by
  unfold teC
  split
  · exact ⟨(up_ne (by omega)).trans h.1, h.2.1, by rw [up_ne (by omega)]; exact h.2.2.1, by rw [up_ne (by omega)]; exact h.2.2.2.1, by rw [up_ne (by omega)]; exact h.2.2.2.2⟩
  · exact h
theorem PR.be {M : Me} {x : Int} {n : Nat} (h : PR M x n) (hx : 15 ≤ x ∧ x ≤ 39) {k : Int} : PR (beC M x k) x n := by
  unfold beC
  split
  · exact ⟨(up_ne (by omega)).trans ((up_ne (by omega)).trans h.1), h.2.1, by rw [up_ne (by omega), up_ne (by omega)]; exact h.2.2.1, by rw [up_ne (by omega), up_ne (by omega)]; exact h.2.2.2.1, by rw [up_eq ⟨rfl, rfl⟩]; have := h.2.2.2.2; omega⟩
  · exact h
abbrev RV := Int × Me
def paC (M : Me) (n : Nat) (due : Int) : RV := if M 2 7 = due then (1, goC M n) else (0, rfC M 1)
def pkC (M : Me) (x : Int) (n : Nat) (due : Int) : RV := if M 2 7 = due then (1, goC (adC M x due 0) n) else (0, rfC M 1)
def rnC (M : Me) (x : Int) (n : Nat) (i l m : Int) : RV := if M 2 7 ≠ 2 then (0, rfC M 1) else if M 2 8 < l ∨ m < M 2 8 then (0, rfC M 2) else (1, goC (teC M x i (M 2 8)) n)
def leC (M : Me) (x : Int) (n : Nat) (k : Int) : RV := if k = 2 ∧ 9999 < M 2 8 then (0, rfC M 2) else if (k = 32 ∧ M 2 9 ≠ 2) ∨ (k = 33 ∧ M 2 9 = 0) then (0, rfC M 5) else (1, goC (adC M x k (M 2 8)) n)
theorem PR.pa {M : Me} {x : Int} {n : Nat} (h : PR M x n) (hx : 15 ≤ x ∧ x ≤ 39) {due : Int} : PR (paC M n due).2 x n := by
  unfold paC
  split
  · exact h.go hx
  · exact h.rf hx
theorem PR.pk {M : Me} {x : Int} {n : Nat} (h : PR M x n) (hx : 15 ≤ x ∧ x ≤ 39) {due : Int} : PR (pkC M x n due).2 x n := by
  unfold pkC
  split
  · exact (h.ad hx).go hx
  · exact h.rf hx
theorem PR.rn {M : Me} {x : Int} {n : Nat} (h : PR M x n) (hx : 15 ≤ x ∧ x ≤ 39) {i l m : Int} : PR (rnC M x n i l m).2 x n := by
  unfold rnC
  (repeat' split)
  · exact h.rf hx
  · exact h.rf hx
  · exact (h.te hx).go hx
theorem PR.le {M : Me} {x : Int} {n : Nat} (h : PR M x n) (hx : 15 ≤ x ∧ x ≤ 39) {k : Int} : PR (leC M x n k).2 x n := by
  unfold leC
  (repeat' split)
  · exact h.rf hx
  · exact h.rf hx
  · exact (h.ad hx).go hx
theorem c_pass {x y z : Int} {M : Me} (hq : TS (Sf x y z) x) (hx : 15 ≤ x ∧ x ≤ 39) {n : Nat} (hP : PR M x n) {due : Int} : Con kX4_pass 6 0 0 [(1, 2), (0, due)] (Sf x y z) M (Ex (some (0, (paC M n due).1)) (Sf x y z) (paC M n due).2) := by
  refine Con.ofV (al := [(1, 2), (0, due)]) 0 (by decide) (Nat.le_of_ble_eq_true rfl) rfl ?_
  obtain ⟨x0, x1, x2, x3, x4, x5, x6, x7, -⟩ := id hq
  refine r_aload_n dX4_pass_0 rfl (by decide) ?_
  refine r_gi 7 dX4_pass_1 flX4_40 sf2 (by decide) (by decide) rfl rfl (by first | assumption | ((repeat (first | (apply rd_ne; · omega) | (apply rd_eq; · omega) | (apply rd_out; · omega) | (apply rd_in; · omega))); first | assumption | rfl)) ?_
  refine r_iload_n dX4_pass_4 rfl ?_
  refine r_icmp_eq (tgt := 14) dX4_pass_5 (by decide) (fun h5 => ?_) (fun h5 => ?_)
  · refine r_aload_n dX4_pass_14 rfl (by decide) ?_
    refine r_cw0 dX4_pass_15 clX4_37 sf2 (by decide) (by decide) rfl (by first | decide | omega) (Nat.le_of_ble_eq_true rfl) ((c_go (M := M) (hP).1 hP.2.1 (hP).2.2.1)) ⟨Nat.zero_le _, Nat.zero_le _⟩ ?_
    refine r_iconst dX4_pass_18 (by decide) ?_
    refine r_zret dX4_pass_19 rfl (by omega) ?_
    first | (exfalso; omega) | exact ⟨by unfold paC; rw [if_pos (by first | omega | assumption)], rfl, by unfold paC; rw [if_pos (by first | omega | assumption)]⟩ | exact ⟨by unfold paC; rw [if_neg (by first | omega | assumption)], rfl, by unfold paC; rw [if_neg (by first | omega | assumption)]⟩
  · refine r_aload_n dX4_pass_8 rfl (by decide) ?_
    refine r_iconst dX4_pass_9 (by decide) ?_
    refine r_cv1 dX4_pass_10 clX4_50 sf2 (by decide) (by decide) rfl (by first | decide | omega) (Nat.le_of_ble_eq_true rfl) (c_refuse) ⟨Nat.zero_le _, Nat.zero_le _⟩ (fun _ => ?_)
    refine r_zret dX4_pass_13 rfl (by omega) ?_
    first | (exfalso; omega) | exact ⟨by unfold paC; rw [if_pos (by first | omega | assumption)], rfl, by unfold paC; rw [if_pos (by first | omega | assumption)]⟩ | exact ⟨by unfold paC; rw [if_neg (by first | omega | assumption)], rfl, by unfold paC; rw [if_neg (by first | omega | assumption)]⟩
theorem c_passKept {x y z : Int} {M : Me} (hq : TS (Sf x y z) x) (hx : 15 ≤ x ∧ x ≤ 39) {n : Nat} (hP : PR M x n) {due : Int} : Con kX4_passKept 6 0 0 [(1, 2), (0, due)] (Sf x y z) M (Ex (some (0, (pkC M x n due).1)) (Sf x y z) (pkC M x n due).2) := by
  refine Con.ofV (al := [(1, 2), (0, due)]) 0 (by decide) (Nat.le_of_ble_eq_true rfl) rfl ?_
  obtain ⟨x0, x1, x2, x3, x4, x5, x6, x7, -⟩ := id hq
  refine r_aload_n dX4_passKept_0 rfl (by decide) ?_
  refine r_gi 7 dX4_passKept_1 flX4_40 sf2 (by decide) (by decide) rfl rfl (by first | assumption | ((repeat (first | (apply rd_ne; · omega) | (apply rd_eq; · omega) | (apply rd_out; · omega) | (apply rd_in; · omega))); first | assumption | rfl)) ?_
  refine r_iload_n dX4_passKept_4 rfl ?_
  refine r_icmp_eq (tgt := 14) dX4_passKept_5 (by decide) (fun h5 => ?_) (fun h5 => ?_)
  · refine r_aload_n dX4_passKept_14 rfl (by decide) ?_
    refine r_getr (x := x) dX4_passKept_15 flX4_25 sf2 (by decide) (by decide) rfl rfl ?_
    refine r_iload_n dX4_passKept_18 rfl ?_
    refine r_iconst dX4_passKept_19 (by decide) ?_
    refine r_cw2 dX4_passKept_20 clX4_91 x0 (by omega) (by decide) rfl (by first | decide | omega) (Nat.le_of_ble_eq_true rfl) ((c_add hq hx hP.2.2.2.1)) ⟨Nat.zero_le _, Nat.zero_le _⟩ ?_
    refine r_aload_n dX4_passKept_23 rfl (by decide) ?_
    refine r_cw0 dX4_passKept_24 clX4_37 sf2 (by decide) (by decide) rfl (by first | decide | omega) (Nat.le_of_ble_eq_true rfl) ((c_go (M := adC M x due 0) (hP.ad hx).1 hP.2.1 (hP.ad hx).2.2.1)) ⟨Nat.zero_le _, Nat.zero_le _⟩ ?_
    refine r_iconst dX4_passKept_27 (by decide) ?_
    refine r_zret dX4_passKept_28 rfl (by omega) ?_
    first | (exfalso; omega) | exact ⟨by unfold pkC; rw [if_pos (by first | omega | assumption)], rfl, by unfold pkC; rw [if_pos (by first | omega | assumption)]⟩ | exact ⟨by unfold pkC; rw [if_neg (by first | omega | assumption)], rfl, by unfold pkC; rw [if_neg (by first | omega | assumption)]⟩
  · refine r_aload_n dX4_passKept_8 rfl (by decide) ?_
    refine r_iconst dX4_passKept_9 (by decide) ?_
    refine r_cv1 dX4_passKept_10 clX4_50 sf2 (by decide) (by decide) rfl (by first | decide | omega) (Nat.le_of_ble_eq_true rfl) (c_refuse) ⟨Nat.zero_le _, Nat.zero_le _⟩ (fun _ => ?_)
    refine r_zret dX4_passKept_13 rfl (by omega) ?_
    first | (exfalso; omega) | exact ⟨by unfold pkC; rw [if_pos (by first | omega | assumption)], rfl, by unfold pkC; rw [if_pos (by first | omega | assumption)]⟩ | exact ⟨by unfold pkC; rw [if_neg (by first | omega | assumption)], rfl, by unfold pkC; rw [if_neg (by first | omega | assumption)]⟩
theorem c_readNumber {x y z : Int} {M : Me} (hq : TS (Sf x y z) x) (hx : 15 ≤ x ∧ x ≤ 39) {n : Nat} (hP : PR M x n) {i l m : Int} : Con kX4_readNumber 6 0 0 [(1, 2), (0, i), (0, l), (0, m)] (Sf x y z) M (Ex (some (0, (rnC M x n i l m).1)) (Sf x y z) (rnC M x n i l m).2) := by
  refine Con.ofV (al := [(1, 2), (0, i), (0, l), (0, m)]) 0 (by decide) (Nat.le_of_ble_eq_true rfl) rfl ?_
  obtain ⟨x0, x1, x2, x3, x4, x5, x6, x7, -⟩ := id hq
  refine r_aload_n dX4_readNumber_0 rfl (by decide) ?_
  refine r_gi 7 dX4_readNumber_1 flX4_40 sf2 (by decide) (by decide) rfl rfl (by first | assumption | ((repeat (first | (apply rd_ne; · omega) | (apply rd_eq; · omega) | (apply rd_out; · omega) | (apply rd_in; · omega))); first | assumption | rfl)) ?_
  refine r_iconst dX4_readNumber_4 (by decide) ?_
  refine r_icmp_eq (tgt := 14) dX4_readNumber_5 (by decide) (fun h5 => ?_) (fun h5 => ?_)
  · refine r_aload_n dX4_readNumber_14 rfl (by decide) ?_
    refine r_gi 8 dX4_readNumber_15 flX4_84 sf2 (by decide) (by decide) rfl rfl (by first | assumption | ((repeat (first | (apply rd_ne; · omega) | (apply rd_eq; · omega) | (apply rd_out; · omega) | (apply rd_in; · omega))); first | assumption | rfl)) ?_
    refine r_iload_n dX4_readNumber_18 rfl ?_
    refine r_icmp_lt (tgt := 30) dX4_readNumber_19 (by decide) (fun h19 => ?_) (fun h19 => ?_)
    · refine r_aload_n dX4_readNumber_30 rfl (by decide) ?_
      refine r_iconst dX4_readNumber_31 (by decide) ?_
      refine r_cv1 dX4_readNumber_32 clX4_50 sf2 (by decide) (by decide) rfl (by first | decide | omega) (Nat.le_of_ble_eq_true rfl) (c_refuse) ⟨Nat.zero_le _, Nat.zero_le _⟩ (fun _ => ?_)
      refine r_zret dX4_readNumber_35 rfl (by omega) ?_
      first | (exfalso; omega) | exact ⟨by unfold rnC; rw [if_pos (by first | omega | assumption)], rfl, by unfold rnC; rw [if_pos (by first | omega | assumption)]⟩ | exact ⟨by unfold rnC; rw [if_neg (by first | omega | assumption), if_pos (by first | omega | assumption)], rfl, by unfold rnC; rw [if_neg (by first | omega | assumption), if_pos (by first | omega | assumption)]⟩ | exact ⟨by unfold rnC; rw [if_neg (by first | omega | assumption), if_neg (by first | omega | assumption)], rfl, by unfold rnC; rw [if_neg (by first | omega | assumption), if_neg (by first | omega | assumption)]⟩
    · refine r_aload_n dX4_readNumber_22 rfl (by decide) ?_
      refine r_gi 8 dX4_readNumber_23 flX4_84 sf2 (by decide) (by decide) rfl rfl (by first | assumption | ((repeat (first | (apply rd_ne; · omega) | (apply rd_eq; · omega) | (apply rd_out; · omega) | (apply rd_in; · omega))); first | assumption | rfl)) ?_
      refine r_iload_n dX4_readNumber_26 rfl ?_
      refine r_icmp_le (tgt := 36) dX4_readNumber_27 (by decide) (fun h27 => ?_) (fun h27 => ?_)
      · refine r_aload_n dX4_readNumber_36 rfl (by decide) ?_
        refine r_getr (x := x) dX4_readNumber_37 flX4_25 sf2 (by decide) (by decide) rfl rfl ?_
        refine r_iload_n dX4_readNumber_40 rfl ?_
        refine r_aload_n dX4_readNumber_41 rfl (by decide) ?_
        refine r_gi 8 dX4_readNumber_42 flX4_84 sf2 (by decide) (by decide) rfl rfl rfl ?_
        refine r_cw2 dX4_readNumber_45 clX4_87 x0 (by omega) (by decide) rfl (by first | decide | omega) (Nat.le_of_ble_eq_true rfl) ((c_tell hq hx hP.2.2.2.2)) ⟨Nat.zero_le _, Nat.zero_le _⟩ ?_
        refine r_aload_n dX4_readNumber_48 rfl (by decide) ?_
        refine r_cw0 dX4_readNumber_49 clX4_37 sf2 (by decide) (by decide) rfl (by first | decide | omega) (Nat.le_of_ble_eq_true rfl) ((c_go (M := teC M x i (M 2 8)) (hP.te hx).1 hP.2.1 (hP.te hx).2.2.1)) ⟨Nat.zero_le _, Nat.zero_le _⟩ ?_
        refine r_iconst dX4_readNumber_52 (by decide) ?_
        refine r_zret dX4_readNumber_53 rfl (by omega) ?_
        first | (exfalso; omega) | exact ⟨by unfold rnC; rw [if_pos (by first | omega | assumption)], rfl, by unfold rnC; rw [if_pos (by first | omega | assumption)]⟩ | exact ⟨by unfold rnC; rw [if_neg (by first | omega | assumption), if_pos (by first | omega | assumption)], rfl, by unfold rnC; rw [if_neg (by first | omega | assumption), if_pos (by first | omega | assumption)]⟩ | exact ⟨by unfold rnC; rw [if_neg (by first | omega | assumption), if_neg (by first | omega | assumption)], rfl, by unfold rnC; rw [if_neg (by first | omega | assumption), if_neg (by first | omega | assumption)]⟩
      · refine r_aload_n dX4_readNumber_30 rfl (by decide) ?_
        refine r_iconst dX4_readNumber_31 (by decide) ?_
        refine r_cv1 dX4_readNumber_32 clX4_50 sf2 (by decide) (by decide) rfl (by first | decide | omega) (Nat.le_of_ble_eq_true rfl) (c_refuse) ⟨Nat.zero_le _, Nat.zero_le _⟩ (fun _ => ?_)
        refine r_zret dX4_readNumber_35 rfl (by omega) ?_
        first | (exfalso; omega) | exact ⟨by unfold rnC; rw [if_pos (by first | omega | assumption)], rfl, by unfold rnC; rw [if_pos (by first | omega | assumption)]⟩ | exact ⟨by unfold rnC; rw [if_neg (by first | omega | assumption), if_pos (by first | omega | assumption)], rfl, by unfold rnC; rw [if_neg (by first | omega | assumption), if_pos (by first | omega | assumption)]⟩ | exact ⟨by unfold rnC; rw [if_neg (by first | omega | assumption), if_neg (by first | omega | assumption)], rfl, by unfold rnC; rw [if_neg (by first | omega | assumption), if_neg (by first | omega | assumption)]⟩
  · refine r_aload_n dX4_readNumber_8 rfl (by decide) ?_
    refine r_iconst dX4_readNumber_9 (by decide) ?_
    refine r_cv1 dX4_readNumber_10 clX4_50 sf2 (by decide) (by decide) rfl (by first | decide | omega) (Nat.le_of_ble_eq_true rfl) (c_refuse) ⟨Nat.zero_le _, Nat.zero_le _⟩ (fun _ => ?_)
    refine r_zret dX4_readNumber_13 rfl (by omega) ?_
    first | (exfalso; omega) | exact ⟨by unfold rnC; rw [if_pos (by first | omega | assumption)], rfl, by unfold rnC; rw [if_pos (by first | omega | assumption)]⟩ | exact ⟨by unfold rnC; rw [if_neg (by first | omega | assumption), if_pos (by first | omega | assumption)], rfl, by unfold rnC; rw [if_neg (by first | omega | assumption), if_pos (by first | omega | assumption)]⟩ | exact ⟨by unfold rnC; rw [if_neg (by first | omega | assumption), if_neg (by first | omega | assumption)], rfl, by unfold rnC; rw [if_neg (by first | omega | assumption), if_neg (by first | omega | assumption)]⟩
theorem c_readLeaf {x y z : Int} {M : Me} (hq : TS (Sf x y z) x) (hx : 15 ≤ x ∧ x ≤ 39) {n : Nat} (hP : PR M x n) {k : Int} : Con kX4_readLeaf 6 0 0 [(1, 2), (0, k)] (Sf x y z) M (Ex (some (0, (leC M x n k).1)) (Sf x y z) (leC M x n k).2) := by
  refine Con.ofV (al := [(1, 2), (0, k)]) 0 (by decide) (Nat.le_of_ble_eq_true rfl) rfl ?_
  obtain ⟨x0, x1, x2, x3, x4, x5, x6, x7, -⟩ := id hq
  refine r_iload_n dX4_readLeaf_0 rfl ?_
  refine r_iconst dX4_readLeaf_1 (by decide) ?_
  refine r_icmp_ne (tgt := 21) dX4_readLeaf_2 (by decide) (fun h2 => ?_) (fun h2 => ?_)
  · refine r_iload_n dX4_readLeaf_21 rfl ?_
    refine r_bipush dX4_readLeaf_22 (by decide) (by decide) ?_
    refine r_icmp_ne (tgt := 35) dX4_readLeaf_24 (by decide) (fun h24 => ?_) (fun h24 => ?_)
    · refine r_iload_n dX4_readLeaf_35 rfl ?_
      refine r_bipush dX4_readLeaf_36 (by decide) (by decide) ?_
      refine r_icmp_ne (tgt := 54) dX4_readLeaf_38 (by decide) (fun h38 => ?_) (fun h38 => ?_)
      · refine r_aload_n dX4_readLeaf_54 rfl (by decide) ?_
        refine r_getr (x := x) dX4_readLeaf_55 flX4_25 sf2 (by decide) (by decide) rfl rfl ?_
        refine r_iload_n dX4_readLeaf_58 rfl ?_
        refine r_aload_n dX4_readLeaf_59 rfl (by decide) ?_
        refine r_gi 8 dX4_readLeaf_60 flX4_84 sf2 (by decide) (by decide) rfl rfl rfl ?_
        refine r_cw2 dX4_readLeaf_63 clX4_91 x0 (by omega) (by decide) rfl (by first | decide | omega) (Nat.le_of_ble_eq_true rfl) ((c_add hq hx hP.2.2.2.1)) ⟨Nat.zero_le _, Nat.zero_le _⟩ ?_
        refine r_aload_n dX4_readLeaf_66 rfl (by decide) ?_
        refine r_cw0 dX4_readLeaf_67 clX4_37 sf2 (by decide) (by decide) rfl (by first | decide | omega) (Nat.le_of_ble_eq_true rfl) ((c_go (M := adC M x k (M 2 8)) (hP.ad hx).1 hP.2.1 (hP.ad hx).2.2.1)) ⟨Nat.zero_le _, Nat.zero_le _⟩ ?_
        refine r_iconst dX4_readLeaf_70 (by decide) ?_
        refine r_zret dX4_readLeaf_71 rfl (by omega) ?_
        first | (exfalso; omega) | exact ⟨by unfold leC; rw [if_pos (by first | omega | assumption)], rfl, by unfold leC; rw [if_pos (by first | omega | assumption)]⟩ | exact ⟨by unfold leC; rw [if_neg (by first | omega | assumption), if_pos (by first | omega | assumption)], rfl, by unfold leC; rw [if_neg (by first | omega | assumption), if_pos (by first | omega | assumption)]⟩ | exact ⟨by unfold leC; rw [if_neg (by first | omega | assumption), if_neg (by first | omega | assumption)], rfl, by unfold leC; rw [if_neg (by first | omega | assumption), if_neg (by first | omega | assumption)]⟩
      · refine r_aload_n dX4_readLeaf_41 rfl (by decide) ?_
        refine r_gi 9 dX4_readLeaf_42 flX4_54 sf2 (by decide) (by decide) rfl rfl (by first | assumption | ((repeat (first | (apply rd_ne; · omega) | (apply rd_eq; · omega) | (apply rd_out; · omega) | (apply rd_in; · omega))); first | assumption | rfl)) ?_
        refine r_if_ne (tgt := 54) dX4_readLeaf_45 (by decide) (fun h45 => ?_) (fun h45 => ?_)
        · refine r_aload_n dX4_readLeaf_54 rfl (by decide) ?_
          refine r_getr (x := x) dX4_readLeaf_55 flX4_25 sf2 (by decide) (by decide) rfl rfl ?_
          refine r_iload_n dX4_readLeaf_58 rfl ?_
          refine r_aload_n dX4_readLeaf_59 rfl (by decide) ?_
          refine r_gi 8 dX4_readLeaf_60 flX4_84 sf2 (by decide) (by decide) rfl rfl rfl ?_
          refine r_cw2 dX4_readLeaf_63 clX4_91 x0 (by omega) (by decide) rfl (by first | decide | omega) (Nat.le_of_ble_eq_true rfl) ((c_add hq hx hP.2.2.2.1)) ⟨Nat.zero_le _, Nat.zero_le _⟩ ?_
          refine r_aload_n dX4_readLeaf_66 rfl (by decide) ?_
          refine r_cw0 dX4_readLeaf_67 clX4_37 sf2 (by decide) (by decide) rfl (by first | decide | omega) (Nat.le_of_ble_eq_true rfl) ((c_go (M := adC M x k (M 2 8)) (hP.ad hx).1 hP.2.1 (hP.ad hx).2.2.1)) ⟨Nat.zero_le _, Nat.zero_le _⟩ ?_
          refine r_iconst dX4_readLeaf_70 (by decide) ?_
          refine r_zret dX4_readLeaf_71 rfl (by omega) ?_
          first | (exfalso; omega) | exact ⟨by unfold leC; rw [if_pos (by first | omega | assumption)], rfl, by unfold leC; rw [if_pos (by first | omega | assumption)]⟩ | exact ⟨by unfold leC; rw [if_neg (by first | omega | assumption), if_pos (by first | omega | assumption)], rfl, by unfold leC; rw [if_neg (by first | omega | assumption), if_pos (by first | omega | assumption)]⟩ | exact ⟨by unfold leC; rw [if_neg (by first | omega | assumption), if_neg (by first | omega | assumption)], rfl, by unfold leC; rw [if_neg (by first | omega | assumption), if_neg (by first | omega | assumption)]⟩
        · refine r_aload_n dX4_readLeaf_48 rfl (by decide) ?_
          refine r_iconst dX4_readLeaf_49 (by decide) ?_
          refine r_cv1 dX4_readLeaf_50 clX4_50 sf2 (by decide) (by decide) rfl (by first | decide | omega) (Nat.le_of_ble_eq_true rfl) (c_refuse) ⟨Nat.zero_le _, Nat.zero_le _⟩ (fun _ => ?_)
          refine r_zret dX4_readLeaf_53 rfl (by omega) ?_
          first | (exfalso; omega) | exact ⟨by unfold leC; rw [if_pos (by first | omega | assumption)], rfl, by unfold leC; rw [if_pos (by first | omega | assumption)]⟩ | exact ⟨by unfold leC; rw [if_neg (by first | omega | assumption), if_pos (by first | omega | assumption)], rfl, by unfold leC; rw [if_neg (by first | omega | assumption), if_pos (by first | omega | assumption)]⟩ | exact ⟨by unfold leC; rw [if_neg (by first | omega | assumption), if_neg (by first | omega | assumption)], rfl, by unfold leC; rw [if_neg (by first | omega | assumption), if_neg (by first | omega | assumption)]⟩
    · refine r_aload_n dX4_readLeaf_27 rfl (by decide) ?_
      refine r_gi 9 dX4_readLeaf_28 flX4_54 sf2 (by decide) (by decide) rfl rfl (by first | assumption | ((repeat (first | (apply rd_ne; · omega) | (apply rd_eq; · omega) | (apply rd_out; · omega) | (apply rd_in; · omega))); first | assumption | rfl)) ?_
      refine r_iconst dX4_readLeaf_31 (by decide) ?_
      refine r_icmp_ne (tgt := 48) dX4_readLeaf_32 (by decide) (fun h32 => ?_) (fun h32 => ?_)
      · refine r_aload_n dX4_readLeaf_48 rfl (by decide) ?_
        refine r_iconst dX4_readLeaf_49 (by decide) ?_
        refine r_cv1 dX4_readLeaf_50 clX4_50 sf2 (by decide) (by decide) rfl (by first | decide | omega) (Nat.le_of_ble_eq_true rfl) (c_refuse) ⟨Nat.zero_le _, Nat.zero_le _⟩ (fun _ => ?_)
        refine r_zret dX4_readLeaf_53 rfl (by omega) ?_
        first | (exfalso; omega) | exact ⟨by unfold leC; rw [if_pos (by first | omega | assumption)], rfl, by unfold leC; rw [if_pos (by first | omega | assumption)]⟩ | exact ⟨by unfold leC; rw [if_neg (by first | omega | assumption), if_pos (by first | omega | assumption)], rfl, by unfold leC; rw [if_neg (by first | omega | assumption), if_pos (by first | omega | assumption)]⟩ | exact ⟨by unfold leC; rw [if_neg (by first | omega | assumption), if_neg (by first | omega | assumption)], rfl, by unfold leC; rw [if_neg (by first | omega | assumption), if_neg (by first | omega | assumption)]⟩
      · refine r_iload_n dX4_readLeaf_35 rfl ?_
        refine r_bipush dX4_readLeaf_36 (by decide) (by decide) ?_
        refine r_icmp_ne (tgt := 54) dX4_readLeaf_38 (by decide) (fun h38 => ?_) (fun h38 => ?_)
        · refine r_aload_n dX4_readLeaf_54 rfl (by decide) ?_
          refine r_getr (x := x) dX4_readLeaf_55 flX4_25 sf2 (by decide) (by decide) rfl rfl ?_
          refine r_iload_n dX4_readLeaf_58 rfl ?_
          refine r_aload_n dX4_readLeaf_59 rfl (by decide) ?_
          refine r_gi 8 dX4_readLeaf_60 flX4_84 sf2 (by decide) (by decide) rfl rfl rfl ?_
          refine r_cw2 dX4_readLeaf_63 clX4_91 x0 (by omega) (by decide) rfl (by first | decide | omega) (Nat.le_of_ble_eq_true rfl) ((c_add hq hx hP.2.2.2.1)) ⟨Nat.zero_le _, Nat.zero_le _⟩ ?_
          refine r_aload_n dX4_readLeaf_66 rfl (by decide) ?_
          refine r_cw0 dX4_readLeaf_67 clX4_37 sf2 (by decide) (by decide) rfl (by first | decide | omega) (Nat.le_of_ble_eq_true rfl) ((c_go (M := adC M x k (M 2 8)) (hP.ad hx).1 hP.2.1 (hP.ad hx).2.2.1)) ⟨Nat.zero_le _, Nat.zero_le _⟩ ?_
          refine r_iconst dX4_readLeaf_70 (by decide) ?_
          refine r_zret dX4_readLeaf_71 rfl (by omega) ?_
          first | (exfalso; omega) | exact ⟨by unfold leC; rw [if_pos (by first | omega | assumption)], rfl, by unfold leC; rw [if_pos (by first | omega | assumption)]⟩ | exact ⟨by unfold leC; rw [if_neg (by first | omega | assumption), if_pos (by first | omega | assumption)], rfl, by unfold leC; rw [if_neg (by first | omega | assumption), if_pos (by first | omega | assumption)]⟩ | exact ⟨by unfold leC; rw [if_neg (by first | omega | assumption), if_neg (by first | omega | assumption)], rfl, by unfold leC; rw [if_neg (by first | omega | assumption), if_neg (by first | omega | assumption)]⟩
        · refine r_aload_n dX4_readLeaf_41 rfl (by decide) ?_
          refine r_gi 9 dX4_readLeaf_42 flX4_54 sf2 (by decide) (by decide) rfl rfl (by first | assumption | ((repeat (first | (apply rd_ne; · omega) | (apply rd_eq; · omega) | (apply rd_out; · omega) | (apply rd_in; · omega))); first | assumption | rfl)) ?_
          refine r_if_ne (tgt := 54) dX4_readLeaf_45 (by decide) (fun h45 => ?_) (fun h45 => ?_)
          · refine r_aload_n dX4_readLeaf_54 rfl (by decide) ?_
            refine r_getr (x := x) dX4_readLeaf_55 flX4_25 sf2 (by decide) (by decide) rfl rfl ?_
            refine r_iload_n dX4_readLeaf_58 rfl ?_
            refine r_aload_n dX4_readLeaf_59 rfl (by decide) ?_
            refine r_gi 8 dX4_readLeaf_60 flX4_84 sf2 (by decide) (by decide) rfl rfl rfl ?_
            refine r_cw2 dX4_readLeaf_63 clX4_91 x0 (by omega) (by decide) rfl (by first | decide | omega) (Nat.le_of_ble_eq_true rfl) ((c_add hq hx hP.2.2.2.1)) ⟨Nat.zero_le _, Nat.zero_le _⟩ ?_
            refine r_aload_n dX4_readLeaf_66 rfl (by decide) ?_
            refine r_cw0 dX4_readLeaf_67 clX4_37 sf2 (by decide) (by decide) rfl (by first | decide | omega) (Nat.le_of_ble_eq_true rfl) ((c_go (M := adC M x k (M 2 8)) (hP.ad hx).1 hP.2.1 (hP.ad hx).2.2.1)) ⟨Nat.zero_le _, Nat.zero_le _⟩ ?_
            refine r_iconst dX4_readLeaf_70 (by decide) ?_
            refine r_zret dX4_readLeaf_71 rfl (by omega) ?_
            first | (exfalso; omega) | exact ⟨by unfold leC; rw [if_pos (by first | omega | assumption)], rfl, by unfold leC; rw [if_pos (by first | omega | assumption)]⟩ | exact ⟨by unfold leC; rw [if_neg (by first | omega | assumption), if_pos (by first | omega | assumption)], rfl, by unfold leC; rw [if_neg (by first | omega | assumption), if_pos (by first | omega | assumption)]⟩ | exact ⟨by unfold leC; rw [if_neg (by first | omega | assumption), if_neg (by first | omega | assumption)], rfl, by unfold leC; rw [if_neg (by first | omega | assumption), if_neg (by first | omega | assumption)]⟩
          · refine r_aload_n dX4_readLeaf_48 rfl (by decide) ?_
            refine r_iconst dX4_readLeaf_49 (by decide) ?_
            refine r_cv1 dX4_readLeaf_50 clX4_50 sf2 (by decide) (by decide) rfl (by first | decide | omega) (Nat.le_of_ble_eq_true rfl) (c_refuse) ⟨Nat.zero_le _, Nat.zero_le _⟩ (fun _ => ?_)
            refine r_zret dX4_readLeaf_53 rfl (by omega) ?_
            first | (exfalso; omega) | exact ⟨by unfold leC; rw [if_pos (by first | omega | assumption)], rfl, by unfold leC; rw [if_pos (by first | omega | assumption)]⟩ | exact ⟨by unfold leC; rw [if_neg (by first | omega | assumption), if_pos (by first | omega | assumption)], rfl, by unfold leC; rw [if_neg (by first | omega | assumption), if_pos (by first | omega | assumption)]⟩ | exact ⟨by unfold leC; rw [if_neg (by first | omega | assumption), if_neg (by first | omega | assumption)], rfl, by unfold leC; rw [if_neg (by first | omega | assumption), if_neg (by first | omega | assumption)]⟩
  · refine r_aload_n dX4_readLeaf_5 rfl (by decide) ?_
    refine r_gi 8 dX4_readLeaf_6 flX4_84 sf2 (by decide) (by decide) rfl rfl (by first | assumption | ((repeat (first | (apply rd_ne; · omega) | (apply rd_eq; · omega) | (apply rd_out; · omega) | (apply rd_in; · omega))); first | assumption | rfl)) ?_
    refine r_sipush dX4_readLeaf_9 (by decide) (by decide) ?_
    refine r_icmp_le (tgt := 21) dX4_readLeaf_12 (by decide) (fun h12 => ?_) (fun h12 => ?_)
    · refine r_iload_n dX4_readLeaf_21 rfl ?_
      refine r_bipush dX4_readLeaf_22 (by decide) (by decide) ?_
      refine r_icmp_ne (tgt := 35) dX4_readLeaf_24 (by decide) (fun h24 => ?_) (fun h24 => ?_)
      · refine r_iload_n dX4_readLeaf_35 rfl ?_
        refine r_bipush dX4_readLeaf_36 (by decide) (by decide) ?_
        refine r_icmp_ne (tgt := 54) dX4_readLeaf_38 (by decide) (fun h38 => ?_) (fun h38 => ?_)
        · refine r_aload_n dX4_readLeaf_54 rfl (by decide) ?_
          refine r_getr (x := x) dX4_readLeaf_55 flX4_25 sf2 (by decide) (by decide) rfl rfl ?_
          refine r_iload_n dX4_readLeaf_58 rfl ?_
          refine r_aload_n dX4_readLeaf_59 rfl (by decide) ?_
          refine r_gi 8 dX4_readLeaf_60 flX4_84 sf2 (by decide) (by decide) rfl rfl rfl ?_
          refine r_cw2 dX4_readLeaf_63 clX4_91 x0 (by omega) (by decide) rfl (by first | decide | omega) (Nat.le_of_ble_eq_true rfl) ((c_add hq hx hP.2.2.2.1)) ⟨Nat.zero_le _, Nat.zero_le _⟩ ?_
          refine r_aload_n dX4_readLeaf_66 rfl (by decide) ?_
          refine r_cw0 dX4_readLeaf_67 clX4_37 sf2 (by decide) (by decide) rfl (by first | decide | omega) (Nat.le_of_ble_eq_true rfl) ((c_go (M := adC M x k (M 2 8)) (hP.ad hx).1 hP.2.1 (hP.ad hx).2.2.1)) ⟨Nat.zero_le _, Nat.zero_le _⟩ ?_
          refine r_iconst dX4_readLeaf_70 (by decide) ?_
          refine r_zret dX4_readLeaf_71 rfl (by omega) ?_
          first | (exfalso; omega) | exact ⟨by unfold leC; rw [if_pos (by first | omega | assumption)], rfl, by unfold leC; rw [if_pos (by first | omega | assumption)]⟩ | exact ⟨by unfold leC; rw [if_neg (by first | omega | assumption), if_pos (by first | omega | assumption)], rfl, by unfold leC; rw [if_neg (by first | omega | assumption), if_pos (by first | omega | assumption)]⟩ | exact ⟨by unfold leC; rw [if_neg (by first | omega | assumption), if_neg (by first | omega | assumption)], rfl, by unfold leC; rw [if_neg (by first | omega | assumption), if_neg (by first | omega | assumption)]⟩
        · refine r_aload_n dX4_readLeaf_41 rfl (by decide) ?_
          refine r_gi 9 dX4_readLeaf_42 flX4_54 sf2 (by decide) (by decide) rfl rfl (by first | assumption | ((repeat (first | (apply rd_ne; · omega) | (apply rd_eq; · omega) | (apply rd_out; · omega) | (apply rd_in; · omega))); first | assumption | rfl)) ?_
          refine r_if_ne (tgt := 54) dX4_readLeaf_45 (by decide) (fun h45 => ?_) (fun h45 => ?_)
          · refine r_aload_n dX4_readLeaf_54 rfl (by decide) ?_
            refine r_getr (x := x) dX4_readLeaf_55 flX4_25 sf2 (by decide) (by decide) rfl rfl ?_
            refine r_iload_n dX4_readLeaf_58 rfl ?_
            refine r_aload_n dX4_readLeaf_59 rfl (by decide) ?_
            refine r_gi 8 dX4_readLeaf_60 flX4_84 sf2 (by decide) (by decide) rfl rfl rfl ?_
            refine r_cw2 dX4_readLeaf_63 clX4_91 x0 (by omega) (by decide) rfl (by first | decide | omega) (Nat.le_of_ble_eq_true rfl) ((c_add hq hx hP.2.2.2.1)) ⟨Nat.zero_le _, Nat.zero_le _⟩ ?_
            refine r_aload_n dX4_readLeaf_66 rfl (by decide) ?_
            refine r_cw0 dX4_readLeaf_67 clX4_37 sf2 (by decide) (by decide) rfl (by first | decide | omega) (Nat.le_of_ble_eq_true rfl) ((c_go (M := adC M x k (M 2 8)) (hP.ad hx).1 hP.2.1 (hP.ad hx).2.2.1)) ⟨Nat.zero_le _, Nat.zero_le _⟩ ?_
            refine r_iconst dX4_readLeaf_70 (by decide) ?_
            refine r_zret dX4_readLeaf_71 rfl (by omega) ?_
            first | (exfalso; omega) | exact ⟨by unfold leC; rw [if_pos (by first | omega | assumption)], rfl, by unfold leC; rw [if_pos (by first | omega | assumption)]⟩ | exact ⟨by unfold leC; rw [if_neg (by first | omega | assumption), if_pos (by first | omega | assumption)], rfl, by unfold leC; rw [if_neg (by first | omega | assumption), if_pos (by first | omega | assumption)]⟩ | exact ⟨by unfold leC; rw [if_neg (by first | omega | assumption), if_neg (by first | omega | assumption)], rfl, by unfold leC; rw [if_neg (by first | omega | assumption), if_neg (by first | omega | assumption)]⟩
          · refine r_aload_n dX4_readLeaf_48 rfl (by decide) ?_
            refine r_iconst dX4_readLeaf_49 (by decide) ?_
            refine r_cv1 dX4_readLeaf_50 clX4_50 sf2 (by decide) (by decide) rfl (by first | decide | omega) (Nat.le_of_ble_eq_true rfl) (c_refuse) ⟨Nat.zero_le _, Nat.zero_le _⟩ (fun _ => ?_)
            refine r_zret dX4_readLeaf_53 rfl (by omega) ?_
            first | (exfalso; omega) | exact ⟨by unfold leC; rw [if_pos (by first | omega | assumption)], rfl, by unfold leC; rw [if_pos (by first | omega | assumption)]⟩ | exact ⟨by unfold leC; rw [if_neg (by first | omega | assumption), if_pos (by first | omega | assumption)], rfl, by unfold leC; rw [if_neg (by first | omega | assumption), if_pos (by first | omega | assumption)]⟩ | exact ⟨by unfold leC; rw [if_neg (by first | omega | assumption), if_neg (by first | omega | assumption)], rfl, by unfold leC; rw [if_neg (by first | omega | assumption), if_neg (by first | omega | assumption)]⟩
      · refine r_aload_n dX4_readLeaf_27 rfl (by decide) ?_
        refine r_gi 9 dX4_readLeaf_28 flX4_54 sf2 (by decide) (by decide) rfl rfl (by first | assumption | ((repeat (first | (apply rd_ne; · omega) | (apply rd_eq; · omega) | (apply rd_out; · omega) | (apply rd_in; · omega))); first | assumption | rfl)) ?_
        refine r_iconst dX4_readLeaf_31 (by decide) ?_
        refine r_icmp_ne (tgt := 48) dX4_readLeaf_32 (by decide) (fun h32 => ?_) (fun h32 => ?_)
        · refine r_aload_n dX4_readLeaf_48 rfl (by decide) ?_
          refine r_iconst dX4_readLeaf_49 (by decide) ?_
          refine r_cv1 dX4_readLeaf_50 clX4_50 sf2 (by decide) (by decide) rfl (by first | decide | omega) (Nat.le_of_ble_eq_true rfl) (c_refuse) ⟨Nat.zero_le _, Nat.zero_le _⟩ (fun _ => ?_)
          refine r_zret dX4_readLeaf_53 rfl (by omega) ?_
          first | (exfalso; omega) | exact ⟨by unfold leC; rw [if_pos (by first | omega | assumption)], rfl, by unfold leC; rw [if_pos (by first | omega | assumption)]⟩ | exact ⟨by unfold leC; rw [if_neg (by first | omega | assumption), if_pos (by first | omega | assumption)], rfl, by unfold leC; rw [if_neg (by first | omega | assumption), if_pos (by first | omega | assumption)]⟩ | exact ⟨by unfold leC; rw [if_neg (by first | omega | assumption), if_neg (by first | omega | assumption)], rfl, by unfold leC; rw [if_neg (by first | omega | assumption), if_neg (by first | omega | assumption)]⟩
        · refine r_iload_n dX4_readLeaf_35 rfl ?_
          refine r_bipush dX4_readLeaf_36 (by decide) (by decide) ?_
          refine r_icmp_ne (tgt := 54) dX4_readLeaf_38 (by decide) (fun h38 => ?_) (fun h38 => ?_)
          · refine r_aload_n dX4_readLeaf_54 rfl (by decide) ?_
            refine r_getr (x := x) dX4_readLeaf_55 flX4_25 sf2 (by decide) (by decide) rfl rfl ?_
            refine r_iload_n dX4_readLeaf_58 rfl ?_
            refine r_aload_n dX4_readLeaf_59 rfl (by decide) ?_
            refine r_gi 8 dX4_readLeaf_60 flX4_84 sf2 (by decide) (by decide) rfl rfl rfl ?_
            refine r_cw2 dX4_readLeaf_63 clX4_91 x0 (by omega) (by decide) rfl (by first | decide | omega) (Nat.le_of_ble_eq_true rfl) ((c_add hq hx hP.2.2.2.1)) ⟨Nat.zero_le _, Nat.zero_le _⟩ ?_
            refine r_aload_n dX4_readLeaf_66 rfl (by decide) ?_
            refine r_cw0 dX4_readLeaf_67 clX4_37 sf2 (by decide) (by decide) rfl (by first | decide | omega) (Nat.le_of_ble_eq_true rfl) ((c_go (M := adC M x k (M 2 8)) (hP.ad hx).1 hP.2.1 (hP.ad hx).2.2.1)) ⟨Nat.zero_le _, Nat.zero_le _⟩ ?_
            refine r_iconst dX4_readLeaf_70 (by decide) ?_
            refine r_zret dX4_readLeaf_71 rfl (by omega) ?_
            first | (exfalso; omega) | exact ⟨by unfold leC; rw [if_pos (by first | omega | assumption)], rfl, by unfold leC; rw [if_pos (by first | omega | assumption)]⟩ | exact ⟨by unfold leC; rw [if_neg (by first | omega | assumption), if_pos (by first | omega | assumption)], rfl, by unfold leC; rw [if_neg (by first | omega | assumption), if_pos (by first | omega | assumption)]⟩ | exact ⟨by unfold leC; rw [if_neg (by first | omega | assumption), if_neg (by first | omega | assumption)], rfl, by unfold leC; rw [if_neg (by first | omega | assumption), if_neg (by first | omega | assumption)]⟩
          · refine r_aload_n dX4_readLeaf_41 rfl (by decide) ?_
            refine r_gi 9 dX4_readLeaf_42 flX4_54 sf2 (by decide) (by decide) rfl rfl (by first | assumption | ((repeat (first | (apply rd_ne; · omega) | (apply rd_eq; · omega) | (apply rd_out; · omega) | (apply rd_in; · omega))); first | assumption | rfl)) ?_
            refine r_if_ne (tgt := 54) dX4_readLeaf_45 (by decide) (fun h45 => ?_) (fun h45 => ?_)
            · refine r_aload_n dX4_readLeaf_54 rfl (by decide) ?_
              refine r_getr (x := x) dX4_readLeaf_55 flX4_25 sf2 (by decide) (by decide) rfl rfl ?_
              refine r_iload_n dX4_readLeaf_58 rfl ?_
              refine r_aload_n dX4_readLeaf_59 rfl (by decide) ?_
              refine r_gi 8 dX4_readLeaf_60 flX4_84 sf2 (by decide) (by decide) rfl rfl rfl ?_
              refine r_cw2 dX4_readLeaf_63 clX4_91 x0 (by omega) (by decide) rfl (by first | decide | omega) (Nat.le_of_ble_eq_true rfl) ((c_add hq hx hP.2.2.2.1)) ⟨Nat.zero_le _, Nat.zero_le _⟩ ?_
              refine r_aload_n dX4_readLeaf_66 rfl (by decide) ?_
              refine r_cw0 dX4_readLeaf_67 clX4_37 sf2 (by decide) (by decide) rfl (by first | decide | omega) (Nat.le_of_ble_eq_true rfl) ((c_go (M := adC M x k (M 2 8)) (hP.ad hx).1 hP.2.1 (hP.ad hx).2.2.1)) ⟨Nat.zero_le _, Nat.zero_le _⟩ ?_
              refine r_iconst dX4_readLeaf_70 (by decide) ?_
              refine r_zret dX4_readLeaf_71 rfl (by omega) ?_
              first | (exfalso; omega) | exact ⟨by unfold leC; rw [if_pos (by first | omega | assumption)], rfl, by unfold leC; rw [if_pos (by first | omega | assumption)]⟩ | exact ⟨by unfold leC; rw [if_neg (by first | omega | assumption), if_pos (by first | omega | assumption)], rfl, by unfold leC; rw [if_neg (by first | omega | assumption), if_pos (by first | omega | assumption)]⟩ | exact ⟨by unfold leC; rw [if_neg (by first | omega | assumption), if_neg (by first | omega | assumption)], rfl, by unfold leC; rw [if_neg (by first | omega | assumption), if_neg (by first | omega | assumption)]⟩
            · refine r_aload_n dX4_readLeaf_48 rfl (by decide) ?_
              refine r_iconst dX4_readLeaf_49 (by decide) ?_
              refine r_cv1 dX4_readLeaf_50 clX4_50 sf2 (by decide) (by decide) rfl (by first | decide | omega) (Nat.le_of_ble_eq_true rfl) (c_refuse) ⟨Nat.zero_le _, Nat.zero_le _⟩ (fun _ => ?_)
              refine r_zret dX4_readLeaf_53 rfl (by omega) ?_
              first | (exfalso; omega) | exact ⟨by unfold leC; rw [if_pos (by first | omega | assumption)], rfl, by unfold leC; rw [if_pos (by first | omega | assumption)]⟩ | exact ⟨by unfold leC; rw [if_neg (by first | omega | assumption), if_pos (by first | omega | assumption)], rfl, by unfold leC; rw [if_neg (by first | omega | assumption), if_pos (by first | omega | assumption)]⟩ | exact ⟨by unfold leC; rw [if_neg (by first | omega | assumption), if_neg (by first | omega | assumption)], rfl, by unfold leC; rw [if_neg (by first | omega | assumption), if_neg (by first | omega | assumption)]⟩
    · refine r_aload_n dX4_readLeaf_15 rfl (by decide) ?_
      refine r_iconst dX4_readLeaf_16 (by decide) ?_
      refine r_cv1 dX4_readLeaf_17 clX4_50 sf2 (by decide) (by decide) rfl (by first | decide | omega) (Nat.le_of_ble_eq_true rfl) (c_refuse) ⟨Nat.zero_le _, Nat.zero_le _⟩ (fun _ => ?_)
      refine r_zret dX4_readLeaf_20 rfl (by omega) ?_
      first | (exfalso; omega) | exact ⟨by unfold leC; rw [if_pos (by first | omega | assumption)], rfl, by unfold leC; rw [if_pos (by first | omega | assumption)]⟩ | exact ⟨by unfold leC; rw [if_neg (by first | omega | assumption), if_pos (by first | omega | assumption)], rfl, by unfold leC; rw [if_neg (by first | omega | assumption), if_pos (by first | omega | assumption)]⟩ | exact ⟨by unfold leC; rw [if_neg (by first | omega | assumption), if_neg (by first | omega | assumption)], rfl, by unfold leC; rw [if_neg (by first | omega | assumption), if_neg (by first | omega | assumption)]⟩
