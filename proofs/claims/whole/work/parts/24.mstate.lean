theorem cpy_0 {M : Me} {a0 sp a dp : Int} : cpy M a0 sp a dp 0 = M := by
  funext a' j
  unfold cpy
  rw [if_neg (by omega)]
/-- one element more, where the rest is moved down in one row -/
theorem cpy_s {M : Me} {a sp dp : Int} {i : Nat} {y z v : Int} (hd : dp < sp) (hy : y = dp + i) (hz : z = sp + i) (hv : v = M a z) : up (cpy M a sp a dp i) a y v = cpy M a sp a dp ((i + 1 : Nat) : Int) := by
  subst hy; subst hz; subst hv
  funext a' j
  unfold up cpy
  by_cases h : a' = a ∧ j = dp + i
  · rw [if_pos h, if_pos (by omega)]
    congr 1
    omega
  · rw [if_neg h]
    by_cases h2 : a' = a ∧ dp ≤ j ∧ j < dp + i
    · rw [if_pos h2, if_pos (by omega)]
    · rw [if_neg h2, if_neg (by omega)]
def bkv (M : Me) (c w : Int) : Int := (M 430 10 * 16 + c) * 4 + w
/-- the reference writes into the BOOK -/
def wrA (M : Me) (c w : Int) : Me := if M 430 12 = 30 then up (up (up (cpy M 430 2113 430 2112 29) 430 12 29) 430 2141 (bkv M c w)) 430 12 30 else up (up M 430 (2112 + M 430 12) (bkv M c w)) 430 12 (M 430 12 + 1)
theorem l_write {x y z : Int} {M : Me} {c w : Int} (hc : 0 ≤ c ∧ c < 12) (hw : 0 ≤ w ∧ w < 4) (h12 : 0 ≤ M 430 12 ∧ M 430 12 ≤ 30) (h10 : 0 ≤ M 430 10 ∧ M 430 10 ≤ 9999) (h9 : M 430 12 = 30) : ∀ (m i : Nat), m + i = 29 → V kX11_write 0 0 0 none (Ex none (Sf x y z) (wrA M c w)) 14 [(1, 429), (0, c), (0, w), (0, (i : Int) + 1)] [] (Sf x y z) (cpy M 430 2113 430 2112 (i : Int)) 0 0 := by
  intro m
  induction m with
  | zero =>
    intro i hi
    obtain rfl : i = 29 := by omega
    refine r_iload_n dX11_write_14 rfl ?_
    refine r_bipush dX11_write_15 (by decide) (by decide) ?_
    refine r_icmp_ge (tgt := 48) dX11_write_17 (by decide) (fun h17 => ?_) (fun h17 => by exfalso; omega)
    refine r_aload_n dX11_write_48 rfl (by decide) ?_
    refine r_getr (x := 430) dX11_write_49 flX11_7 sf429 (by decide) (by decide) rfl rfl ?_
    refine r_bipush dX11_write_52 (by decide) (by decide) ?_
    refine r_dup2 dX11_write_54 (by decide) (by decide) ?_
    refine r_iald dX11_write_55 sf430 (by decide) (by omega) (by omega) (by decide) (by first | assumption | ((repeat (first | (apply rd_ne; · omega) | (apply rd_eq; · omega) | (apply rd_out; · omega) | (apply rd_in; · omega))); first | assumption | rfl)) ?_
    refine r_iconst dX11_write_56 (by decide) ?_
    refine r_isub dX11_write_57 (w32_id (by omega)) ?_
    refine r_iast dX11_write_58 sf430 (by decide) (by omega) (by omega) (by decide) rfl ?_
    refine r_aload_n dX11_write_59 rfl (by decide) ?_
    refine r_getr (x := 430) dX11_write_60 flX11_7 sf429 (by decide) (by decide) rfl rfl ?_
    refine r_sipush dX11_write_63 (by decide) (by decide) ?_
    refine r_aload_n dX11_write_66 rfl (by decide) ?_
    refine r_getr (x := 430) dX11_write_67 flX11_7 sf429 (by decide) (by decide) rfl rfl ?_
    refine r_bipush dX11_write_70 (by decide) (by decide) ?_
    refine r_iald dX11_write_72 sf430 (by decide) (by omega) (by omega) (by decide) (by first | assumption | ((repeat (first | (apply rd_ne; · omega) | (apply rd_eq; · omega) | (apply rd_out; · omega) | (apply rd_in; · omega))); first | assumption | rfl)) ?_
    refine r_iadd dX11_write_73 (w32_id (by omega)) ?_
    refine r_aload_n dX11_write_74 rfl (by decide) ?_
    refine r_getr (x := 430) dX11_write_75 flX11_7 sf429 (by decide) (by decide) rfl rfl ?_
    refine r_bipush dX11_write_78 (by decide) (by decide) ?_
    refine r_iald dX11_write_80 sf430 (by decide) (by omega) (by omega) (by decide) (by first | assumption | ((repeat (first | (apply rd_ne; · omega) | (apply rd_eq; · omega) | (apply rd_out; · omega) | (apply rd_in; · omega))); first | assumption | rfl)) ?_
    refine r_bipush dX11_write_81 (by decide) (by decide) ?_
    refine r_imul dX11_write_83 (w32_id (by omega)) ?_
    refine r_iload_n dX11_write_84 rfl ?_
    refine r_iadd dX11_write_85 (w32_id (by omega)) ?_
    refine r_iconst dX11_write_86 (by decide) ?_
    refine r_imul dX11_write_87 (w32_id (by omega)) ?_
    refine r_iload_n dX11_write_88 rfl ?_
    refine r_iadd dX11_write_89 (w32_id (by omega)) ?_
    refine r_iast dX11_write_90 sf430 (by decide) (by omega) (by omega) (by decide) rfl ?_
    refine r_aload_n dX11_write_91 rfl (by decide) ?_
    refine r_getr (x := 430) dX11_write_92 flX11_7 sf429 (by decide) (by decide) rfl rfl ?_
    refine r_bipush dX11_write_95 (by decide) (by decide) ?_
    refine r_dup2 dX11_write_97 (by decide) (by decide) ?_
    refine r_iald dX11_write_98 sf430 (by decide) (by omega) (by omega) (by decide) (by first | assumption | ((repeat (first | (apply rd_ne; · omega) | (apply rd_eq; · omega) | (apply rd_out; · omega) | (apply rd_in; · omega))); first | assumption | rfl)) ?_
    refine r_iconst dX11_write_99 (by decide) ?_
    refine r_iadd dX11_write_100 (w32_id (by omega)) ?_
    refine r_iast dX11_write_101 sf430 (by decide) (by omega) (by omega) (by decide) rfl ?_
    refine r_ret0 dX11_write_102 rfl ?_
    exact ⟨rfl, rfl, by unfold wrA; first | (rw [if_pos (by assumption)]; rfl) | rw [if_pos (by assumption)] | (rw [if_neg (by assumption)]; rfl) | rw [if_neg (by assumption)]⟩
  | succ m ih =>
    intro i hi
    refine r_iload_n dX11_write_14 rfl ?_
    refine r_bipush dX11_write_15 (by decide) (by decide) ?_
    refine r_icmp_ge (tgt := 48) dX11_write_17 (by decide) (fun h17 => by exfalso; omega) (fun h17 => ?_)
    refine r_aload_n dX11_write_20 rfl (by decide) ?_
    refine r_getr (x := 430) dX11_write_21 flX11_7 sf429 (by decide) (by decide) rfl rfl ?_
    refine r_sipush dX11_write_24 (by decide) (by decide) ?_
    refine r_iload_n dX11_write_27 rfl ?_
    refine r_iadd dX11_write_28 (w32_id (by omega)) ?_
    refine r_iconst dX11_write_29 (by decide) ?_
    refine r_isub dX11_write_30 (w32_id (by omega)) ?_
    refine r_aload_n dX11_write_31 rfl (by decide) ?_
    refine r_getr (x := 430) dX11_write_32 flX11_7 sf429 (by decide) (by decide) rfl rfl ?_
    refine r_sipush dX11_write_35 (by decide) (by decide) ?_
    refine r_iload_n dX11_write_38 rfl ?_
    refine r_iadd dX11_write_39 (w32_id (by omega)) ?_
    refine r_iald dX11_write_40 sf430 (by decide) (by omega) (by omega) (by decide) (by first | assumption | ((repeat (first | (apply rd_ne; · omega) | (apply rd_eq; · omega) | (apply rd_out; · omega) | (apply rd_in; · omega))); first | assumption | rfl)) ?_
    refine r_iast dX11_write_41 sf430 (by decide) (by omega) (by omega) (by decide) rfl ?_
    refine r_iinc dX11_write_42 rfl rfl (by decide) (w32_id (by omega)) st3 ?_
    refine r_goto (tgt := 14) dX11_write_45 (by decide) ?_
    exact V.cm rfl (cpy_s (by decide) (by omega) (by omega) rfl) (ih (i + 1) (by omega))
theorem m_write {x y z : Int} {M : Me} {c w : Int} (hc : 0 ≤ c ∧ c < 12) (hw : 0 ≤ w ∧ w < 4) (h12 : 0 ≤ M 430 12 ∧ M 430 12 ≤ 30) (h10 : 0 ≤ M 430 10 ∧ M 430 10 ≤ 9999) : Con kX11_write 0 0 0 [(1, 429), (0, c), (0, w)] (Sf x y z) M (Ex none (Sf x y z) (wrA M c w)) := by
  refine Con.ofV (al := [(1, 429), (0, c), (0, w), (9, 0)]) 1 (by decide) (Nat.le_of_ble_eq_true rfl) rfl ?_
  refine r_aload_n dX11_write_0 rfl (by decide) ?_
  refine r_getr (x := 430) dX11_write_1 flX11_7 sf429 (by decide) (by decide) rfl rfl ?_
  refine r_bipush dX11_write_4 (by decide) (by decide) ?_
  refine r_iald dX11_write_6 sf430 (by decide) (by omega) (by omega) (by decide) (by first | assumption | ((repeat (first | (apply rd_ne; · omega) | (apply rd_eq; · omega) | (apply rd_out; · omega) | (apply rd_in; · omega))); first | assumption | rfl)) ?_
  refine r_bipush dX11_write_7 (by decide) (by decide) ?_
  refine r_icmp_ne (tgt := 59) dX11_write_9 (by decide) (fun h9 => ?_) (fun h9 => ?_)
  · refine r_aload_n dX11_write_59 rfl (by decide) ?_
    refine r_getr (x := 430) dX11_write_60 flX11_7 sf429 (by decide) (by decide) rfl rfl ?_
    refine r_sipush dX11_write_63 (by decide) (by decide) ?_
    refine r_aload_n dX11_write_66 rfl (by decide) ?_
    refine r_getr (x := 430) dX11_write_67 flX11_7 sf429 (by decide) (by decide) rfl rfl ?_
    refine r_bipush dX11_write_70 (by decide) (by decide) ?_
    refine r_iald dX11_write_72 sf430 (by decide) (by omega) (by omega) (by decide) (by first | assumption | ((repeat (first | (apply rd_ne; · omega) | (apply rd_eq; · omega) | (apply rd_out; · omega) | (apply rd_in; · omega))); first | assumption | rfl)) ?_
    refine r_iadd dX11_write_73 (w32_id (by omega)) ?_
    refine r_aload_n dX11_write_74 rfl (by decide) ?_
    refine r_getr (x := 430) dX11_write_75 flX11_7 sf429 (by decide) (by decide) rfl rfl ?_
    refine r_bipush dX11_write_78 (by decide) (by decide) ?_
    refine r_iald dX11_write_80 sf430 (by decide) (by omega) (by omega) (by decide) (by first | assumption | ((repeat (first | (apply rd_ne; · omega) | (apply rd_eq; · omega) | (apply rd_out; · omega) | (apply rd_in; · omega))); first | assumption | rfl)) ?_
    refine r_bipush dX11_write_81 (by decide) (by decide) ?_
    refine r_imul dX11_write_83 (w32_id (by omega)) ?_
    refine r_iload_n dX11_write_84 rfl ?_
    refine r_iadd dX11_write_85 (w32_id (by omega)) ?_
    refine r_iconst dX11_write_86 (by decide) ?_
    refine r_imul dX11_write_87 (w32_id (by omega)) ?_
    refine r_iload_n dX11_write_88 rfl ?_
    refine r_iadd dX11_write_89 (w32_id (by omega)) ?_
    refine r_iast dX11_write_90 sf430 (by decide) (by omega) (by omega) (by decide) rfl ?_
    refine r_aload_n dX11_write_91 rfl (by decide) ?_
    refine r_getr (x := 430) dX11_write_92 flX11_7 sf429 (by decide) (by decide) rfl rfl ?_
    refine r_bipush dX11_write_95 (by decide) (by decide) ?_
    refine r_dup2 dX11_write_97 (by decide) (by decide) ?_
    refine r_iald dX11_write_98 sf430 (by decide) (by omega) (by omega) (by decide) (by first | assumption | ((repeat (first | (apply rd_ne; · omega) | (apply rd_eq; · omega) | (apply rd_out; · omega) | (apply rd_in; · omega))); first | assumption | rfl)) ?_
    refine r_iconst dX11_write_99 (by decide) ?_
    refine r_iadd dX11_write_100 (w32_id (by omega)) ?_
    refine r_iast dX11_write_101 sf430 (by decide) (by omega) (by omega) (by decide) rfl ?_
    refine r_ret0 dX11_write_102 rfl ?_
    exact ⟨rfl, rfl, by unfold wrA; first | (rw [if_pos (by assumption)]; rfl) | rw [if_pos (by assumption)] | (rw [if_neg (by assumption)]; rfl) | rw [if_neg (by assumption)]⟩
  · refine r_iconst dX11_write_12 (by decide) ?_
    refine r_istore_n dX11_write_13 rfl (by decide) st3 ?_
    exact V.cm rfl cpy_0.symm (l_write hc hw h12 h10 (by assumption) 29 0 (by omega))
theorem m_anew {x y z : Int} {M : Me} (h11 : 0 ≤ M 430 11 ∧ M 430 11 < 40000) : Con kX11_anew 0 0 0 [(1, 429)] (Sf x y z) M (Ex none (Sf x y z) (up M 430 11 ((M 430 11 * 401 + 281) % 30509))) := by
  refine Con.ofV (al := [(1, 429)]) 0 (by decide) (Nat.le_of_ble_eq_true rfl) rfl ?_
  refine r_aload_n dX11_anew_0 rfl (by decide) ?_
  refine r_getr (x := 430) dX11_anew_1 flX11_7 sf429 (by decide) (by decide) rfl rfl ?_
  refine r_bipush dX11_anew_4 (by decide) (by decide) ?_
  refine r_aload_n dX11_anew_6 rfl (by decide) ?_
  refine r_getr (x := 430) dX11_anew_7 flX11_7 sf429 (by decide) (by decide) rfl rfl ?_
  refine r_bipush dX11_anew_10 (by decide) (by decide) ?_
  refine r_iald dX11_anew_12 sf430 (by decide) (by omega) (by omega) (by decide) (by first | assumption | ((repeat (first | (apply rd_ne; · omega) | (apply rd_eq; · omega) | (apply rd_out; · omega) | (apply rd_in; · omega))); first | assumption | rfl)) ?_
  refine r_i2l dX11_anew_13 ?_
  refine r_ldc2 (x := 401) dX11_anew_14 ctX11_312 (by decide) ?_
  refine r_lmul dX11_anew_17 (w64_id (by omega)) ?_
  refine r_ldc2 (x := 281) dX11_anew_18 ctX11_314 (by decide) ?_
  refine r_ladd dX11_anew_21 (w64_id (by omega)) ?_
  refine r_ldc2 (x := 30509) dX11_anew_22 ctX11_316 (by decide) ?_
  refine r_lrem dX11_anew_25 (by omega) (rmn (by omega)) ?_
  refine r_l2i dX11_anew_26 (w32_id (by omega)) ?_
  refine r_iast dX11_anew_27 sf430 (by decide) (by omega) (by omega) (by decide) rfl ?_
  refine r_ret0 dX11_anew_28 rfl ?_
  exact Ex.rf
def bcA (M : Me) (c h d : Int) : Me := wrA (up (up M 430 (15 + 7 * c + 1) h) 430 (15 + 7 * c + 0) d) c (if h = 0 then 2 else h - 1)
theorem m_become {x y z : Int} {M : Me} {c h d : Int} (hc : 0 ≤ c ∧ c < 12) (hh : 0 ≤ h ∧ h ≤ 2) (h12 : 0 ≤ M 430 12 ∧ M 430 12 ≤ 30) (h10 : 0 ≤ M 430 10 ∧ M 430 10 ≤ 9999) : Con kX11_become 1 0 0 [(1, 429), (0, c), (0, h), (0, d)] (Sf x y z) M (Ex none (Sf x y z) (bcA M c h d)) := by
  refine Con.ofV (al := [(1, 429), (0, c), (0, h), (0, d)]) 0 (by decide) (Nat.le_of_ble_eq_true rfl) rfl ?_
  refine r_aload_n dX11_become_0 rfl (by decide) ?_
  refine r_iload_n dX11_become_1 rfl ?_
  refine r_iconst dX11_become_2 (by decide) ?_
  refine r_iload_n dX11_become_3 rfl ?_
  refine r_cw3 dX11_become_4 clX11_77 sf429 (by decide) (by decide) rfl (by first | decide | omega) (Nat.le_of_ble_eq_true rfl) (c_put (by omega) (by decide)) ⟨Nat.zero_le _, Nat.zero_le _⟩ ?_
  refine r_aload_n dX11_become_7 rfl (by decide) ?_
  refine r_iload_n dX11_become_8 rfl ?_
  refine r_iconst dX11_become_9 (by decide) ?_
  refine r_iload_n dX11_become_10 rfl ?_
  refine r_cw3 dX11_become_11 clX11_77 sf429 (by decide) (by decide) rfl (by first | decide | omega) (Nat.le_of_ble_eq_true rfl) (c_put (by omega) (by decide)) ⟨Nat.zero_le _, Nat.zero_le _⟩ ?_
  refine r_aload_n dX11_become_14 rfl (by decide) ?_
  refine r_iload_n dX11_become_15 rfl ?_
  refine r_iload_n dX11_become_16 rfl ?_
  refine r_if_ne (tgt := 24) dX11_become_17 (by decide) (fun h17 => ?_) (fun h17 => ?_)
  · try have h17 := bi_1.mp h17
    refine r_iload_n dX11_become_24 rfl ?_
    refine r_iconst dX11_become_25 (by decide) ?_
    refine r_isub dX11_become_26 (w32_id (by omega)) ?_
    refine r_cw2 dX11_become_27 clX11_318 sf429 (by decide) (by decide) rfl (by first | decide | omega) (Nat.le_of_ble_eq_true rfl) (m_write hc (by omega) (by rw [up_ne (by omega), up_ne (by omega)]; omega) (by rw [up_ne (by omega), up_ne (by omega)]; omega)) ⟨Nat.zero_le _, Nat.zero_le _⟩ ?_
    refine r_ret0 dX11_become_30 rfl ?_
    exact ⟨rfl, rfl, by unfold bcA; first | rw [if_pos (by assumption)] | rw [if_neg (by assumption)]⟩
  · try have h17 := bi_0.mp h17
    refine r_iconst dX11_become_20 (by decide) ?_
    refine r_goto (tgt := 27) dX11_become_21 (by decide) ?_
    refine r_cw2 dX11_become_27 clX11_318 sf429 (by decide) (by decide) rfl (by first | decide | omega) (Nat.le_of_ble_eq_true rfl) (m_write hc (by omega) (by rw [up_ne (by omega), up_ne (by omega)]; omega) (by rw [up_ne (by omega), up_ne (by omega)]; omega)) ⟨Nat.zero_le _, Nat.zero_le _⟩ ?_
    refine r_ret0 dX11_become_30 rfl ?_
    exact ⟨rfl, rfl, by unfold bcA; first | rw [if_pos (by assumption)] | rw [if_neg (by assumption)]⟩
theorem m_canBack {x y z : Int} {M : Me} {c : Int} (hc : 0 ≤ c ∧ c < 12) {n : Nat} (hn : M 430 14 = (n : Int)) (hn12 : n ≤ 12) : Con kX11_canBack 3 0 0 [(1, 429), (0, c)] (Sf x y z) M (Ex (some (0, bi (M 430 (15 + 7 * c + 1) = 1 ∧ and32 (M 430 (15 + 7 * c + 6)) (xor32 (bset (fun c : Int => M 430 (15 + 7 * c + 1) = 0) (fun c => c) n) (-1)) = 0))) (Sf x y z) M) := by
  refine Con.ofV (al := [(1, 429), (0, c)]) 0 (by decide) (Nat.le_of_ble_eq_true rfl) rfl ?_
  refine r_aload_n dX11_canBack_0 rfl (by decide) ?_
  refine r_iload_n dX11_canBack_1 rfl ?_
  refine r_iconst dX11_canBack_2 (by decide) ?_
  refine r_cv2 dX11_canBack_3 clX11_66 sf429 (by decide) (by decide) rfl (by first | decide | omega) (Nat.le_of_ble_eq_true rfl) (c_get (by omega) (by decide)) ⟨Nat.zero_le _, Nat.zero_le _⟩ (fun _ => ?_)
  refine r_iconst dX11_canBack_6 (by decide) ?_
  refine r_icmp_ne (tgt := 31) dX11_canBack_7 (by decide) (fun h7 => ?_) (fun h7 => ?_)
  · refine r_iconst dX11_canBack_31 (by decide) ?_
    refine r_zret dX11_canBack_32 rfl (by omega) ?_
    first | exact ⟨by rw [bi_t ⟨by assumption, by assumption⟩], rfl, rfl⟩ | exact ⟨by rw [bi_f (fun q => absurd q.1 (by assumption))], rfl, rfl⟩ | exact ⟨by rw [bi_f (fun q => absurd q.2 (by assumption))], rfl, rfl⟩
  · refine r_aload_n dX11_canBack_10 rfl (by decide) ?_
    refine r_iload_n dX11_canBack_11 rfl ?_
    refine r_bipush dX11_canBack_12 (by decide) (by decide) ?_
    refine r_cv2 dX11_canBack_14 clX11_66 sf429 (by decide) (by decide) rfl (by first | decide | omega) (Nat.le_of_ble_eq_true rfl) (c_get (by omega) (by decide)) ⟨Nat.zero_le _, Nat.zero_le _⟩ (fun _ => ?_)
    refine r_aload_n dX11_canBack_17 rfl (by decide) ?_
    refine r_cv0 dX11_canBack_18 clX11_336 sf429 (by decide) (by decide) rfl (by first | decide | omega) (Nat.le_of_ble_eq_true rfl) (c_there hn hn12) ⟨Nat.zero_le _, Nat.zero_le _⟩ (fun _ => ?_)
    refine r_iconst dX11_canBack_21 (by decide) ?_
    refine r_ixor dX11_canBack_22 rfl ?_
    refine r_iand dX11_canBack_23 rfl ?_
    refine r_if_ne (tgt := 31) dX11_canBack_24 (by decide) (fun h24 => ?_) (fun h24 => ?_)
    · try have h24 := bi_1.mp h24
      refine r_iconst dX11_canBack_31 (by decide) ?_
      refine r_zret dX11_canBack_32 rfl (by omega) ?_
      first | exact ⟨by rw [bi_t ⟨by assumption, by assumption⟩], rfl, rfl⟩ | exact ⟨by rw [bi_f (fun q => absurd q.1 (by assumption))], rfl, rfl⟩ | exact ⟨by rw [bi_f (fun q => absurd q.2 (by assumption))], rfl, rfl⟩
    · try have h24 := bi_0.mp h24
      refine r_iconst dX11_canBack_27 (by decide) ?_
      refine r_goto (tgt := 32) dX11_canBack_28 (by decide) ?_
      refine r_zret dX11_canBack_32 rfl (by omega) ?_
      first | exact ⟨by rw [bi_t ⟨by assumption, by assumption⟩], rfl, rfl⟩ | exact ⟨by rw [bi_f (fun q => absurd q.1 (by assumption))], rfl, rfl⟩ | exact ⟨by rw [bi_f (fun q => absurd q.2 (by assumption))], rfl, rfl⟩
/-- the CREASES that are there deepen, the first n of them -/
def dpA (M : Me) (n : Int) : Me := fun a j => if (a = 430 ∧ 15 ≤ j ∧ j < 15 + 7 * n ∧ (j - 15) % 7 = 0) ∧ M 430 (j + 1) = 0 ∧ M 430 j < M 430 (j + 4) then M a j + 1 else M a j
theorem dp_o {M : Me} {n a j : Int} (h : ¬ (a = 430 ∧ 15 ≤ j ∧ j < 15 + 7 * n ∧ (j - 15) % 7 = 0)) : dpA M n a j = M a j := by unfold dpA; rw [if_neg (fun q => h q.1)]
theorem dp_0 {M : Me} : dpA M 0 = M := by funext a j; exact dp_o (by omega)
theorem dp_t {M : Me} {i : Nat} {y v : Int} (h1 : M 430 (15 + 7 * (i : Int) + 1) = 0) (h2 : M 430 (15 + 7 * (i : Int) + 0) < M 430 (15 + 7 * (i : Int) + 4)) (hy : y = 15 + 7 * (i : Int) + 0) (hv : v = M 430 (15 + 7 * (i : Int) + 0) + 1) : up (dpA M i) 430 y v = dpA M ((i + 1 : Nat) : Int) := by
  subst hy; subst hv
  funext a j
  by_cases h : a = 430 ∧ j = 15 + 7 * (i : Int) + 0
  · rw [up_eq h]
    unfold dpA
    obtain ⟨rfl, rfl⟩ := h
    rw [if_pos ⟨by omega, by rw [show (15 + 7 * (i : Int) + 0 + 1) = 15 + 7 * (i : Int) + 1 by omega]; exact h1, by rw [show (15 + 7 * (i : Int) + 0 + 4) = 15 + 7 * (i : Int) + 4 by omega]; exact h2⟩]
  · rw [up_ne h]
    unfold dpA
    by_cases h3 : (a = 430 ∧ 15 ≤ j ∧ j < 15 + 7 * (i : Int) ∧ (j - 15) % 7 = 0)
    · by_cases h4 : M 430 (j + 1) = 0 ∧ M 430 j < M 430 (j + 4)
      · rw [if_pos ⟨h3, h4⟩, if_pos ⟨by omega, h4⟩]
      · rw [if_neg (fun q => h4 q.2), if_neg (fun q => h4 q.2)]
    · rw [if_neg (fun q => h3 q.1), if_neg (fun q => h3 (by have := q.1; omega))]
theorem dp_f {M : Me} {i : Nat} (h : ¬ (M 430 (15 + 7 * (i : Int) + 1) = 0 ∧ M 430 (15 + 7 * (i : Int) + 0) < M 430 (15 + 7 * (i : Int) + 4))) : dpA M i = dpA M ((i + 1 : Nat) : Int) := by
  funext a j
  unfold dpA
  by_cases h3 : (a = 430 ∧ 15 ≤ j ∧ j < 15 + 7 * (i : Int) ∧ (j - 15) % 7 = 0)
  · by_cases h4 : M 430 (j + 1) = 0 ∧ M 430 j < M 430 (j + 4)
    · rw [if_pos ⟨h3, h4⟩, if_pos ⟨by omega, h4⟩]
    · rw [if_neg (fun q => h4 q.2), if_neg (fun q => h4 q.2)]
  · rw [if_neg (fun q => h3 q.1), if_neg]
    rintro ⟨q1, q2, q3⟩
    have hj : j = 15 + 7 * (i : Int) + 0 := by omega
    subst hj
    rw [show (15 + 7 * (i : Int) + 0 + 1) = 15 + 7 * (i : Int) + 1 by omega] at q2
    rw [show (15 + 7 * (i : Int) + 0 + 4) = 15 + 7 * (i : Int) + 4 by omega] at q3
    exact h ⟨q2, q3⟩
def psA (M : Me) (n : Int) : Me := up (if M 430 10 % 10 = 9 then dpA M n else M) 430 10 (M 430 10 + 1)
theorem l_pass {x y z : Int} {M : Me} {n : Nat} (hn : M 430 14 = (n : Int)) (hn12 : n ≤ 12) (h10 : 0 ≤ M 430 10 ∧ M 430 10 ≤ 9999) (hd : ∀ c : Int, 0 ≤ c → c < n → 0 ≤ M 430 (15 + 7 * c + 0) ∧ M 430 (15 + 7 * c + 0) ≤ 9) (h9 : M 430 10 % 10 = 9) : ∀ (m i : Nat), m + i = n → V kX11_pass 0 0 2 none (Ex none (Sf x y z) (psA M n)) 17 [(1, 429), (0, (i : Int))] [] (Sf x y z) (dpA M (i : Int)) 0 0 := by
  intro m
  induction m with
  | zero =>
    intro i hi
    obtain rfl : i = n := by omega
    refine r_iload_n dX11_pass_17 rfl ?_
    refine r_aload_n dX11_pass_18 rfl (by decide) ?_
    refine r_getr (x := 430) dX11_pass_19 flX11_7 sf429 (by decide) (by decide) rfl rfl ?_
    refine r_bipush dX11_pass_22 (by decide) (by decide) ?_
    refine r_iald dX11_pass_24 sf430 (by decide) (by omega) (by omega) (by decide) ((dp_o (by omega)).trans hn) ?_
    refine r_icmp_ge (tgt := 71) dX11_pass_25 (by decide) (fun h25 => ?_) (fun h25 => by exfalso; omega)
    refine r_aload_n dX11_pass_71 rfl (by decide) ?_
    refine r_getr (x := 430) dX11_pass_72 flX11_7 sf429 (by decide) (by decide) rfl rfl ?_
    refine r_bipush dX11_pass_75 (by decide) (by decide) ?_
    refine r_dup2 dX11_pass_77 (by decide) (by decide) ?_
    refine r_iald dX11_pass_78 sf430 (by decide) (by omega) (by omega) (by decide) (dp_o (by omega)) ?_
    refine r_iconst dX11_pass_79 (by decide) ?_
    refine r_iadd dX11_pass_80 (w32_id (by omega)) ?_
    refine r_iast dX11_pass_81 sf430 (by decide) (by omega) (by omega) (by decide) rfl ?_
    refine r_ret0 dX11_pass_82 rfl ?_
    exact ⟨rfl, rfl, by unfold psA; first | (rw [if_pos (by assumption)]) | (rw [if_neg (by assumption)])⟩
  | succ m ih =>
    intro i hi
    have hdi := hd i (by omega) (by omega)
    refine r_iload_n dX11_pass_17 rfl ?_
    refine r_aload_n dX11_pass_18 rfl (by decide) ?_
    refine r_getr (x := 430) dX11_pass_19 flX11_7 sf429 (by decide) (by decide) rfl rfl ?_
    refine r_bipush dX11_pass_22 (by decide) (by decide) ?_
    refine r_iald dX11_pass_24 sf430 (by decide) (by omega) (by omega) (by decide) ((dp_o (by omega)).trans hn) ?_
    refine r_icmp_ge (tgt := 71) dX11_pass_25 (by decide) (fun h25 => by exfalso; omega) (fun h25 => ?_)
    refine r_aload_n dX11_pass_28 rfl (by decide) ?_
    refine r_iload_n dX11_pass_29 rfl ?_
    refine r_cv1 dX11_pass_30 clX11_70 sf429 (by decide) (by decide) rfl (by first | decide | omega) (Nat.le_of_ble_eq_true rfl) (c_isThere (by omega)) ⟨Nat.zero_le _, Nat.zero_le _⟩ (fun _ => ?_)
    refine r_if_eq (tgt := 65) dX11_pass_33 (by decide) (fun h33 => ?_) (fun h33 => ?_)
    · try have h33 := bi_0.mp h33
      try rw [dp_o (by omega)] at h33
      try rw [dp_o (by omega)] at h33
      refine r_iinc dX11_pass_65 rfl rfl (by decide) (w32_id (by omega)) st1 ?_
      refine r_goto (tgt := 17) dX11_pass_68 (by decide) ?_
      first | exact V.cm rfl (dp_t (by assumption) (by assumption) rfl rfl) (ih (i + 1) (by omega)) | exact V.cm rfl (dp_f (by omega)) (ih (i + 1) (by omega))
    · try have h33 := bi_1.mp h33
      try rw [dp_o (by omega)] at h33
      try rw [dp_o (by omega)] at h33
      refine r_aload_n dX11_pass_36 rfl (by decide) ?_
      refine r_iload_n dX11_pass_37 rfl ?_
      refine r_iconst dX11_pass_38 (by decide) ?_
      refine r_cv2 dX11_pass_39 clX11_66 sf429 (by decide) (by decide) rfl (by first | decide | omega) (Nat.le_of_ble_eq_true rfl) (c_get (by omega) (by decide)) ⟨Nat.zero_le _, Nat.zero_le _⟩ (fun _ => ?_)
      refine r_aload_n dX11_pass_42 rfl (by decide) ?_
      refine r_iload_n dX11_pass_43 rfl ?_
      refine r_iconst dX11_pass_44 (by decide) ?_
      refine r_cv2 dX11_pass_45 clX11_66 sf429 (by decide) (by decide) rfl (by first | decide | omega) (Nat.le_of_ble_eq_true rfl) (c_get (by omega) (by decide)) ⟨Nat.zero_le _, Nat.zero_le _⟩ (fun _ => ?_)
      refine r_icmp_ge (tgt := 65) dX11_pass_48 (by decide) (fun h48 => ?_) (fun h48 => ?_)
      · try rw [dp_o (by omega)] at h48
        try rw [dp_o (by omega)] at h48
        refine r_iinc dX11_pass_65 rfl rfl (by decide) (w32_id (by omega)) st1 ?_
        refine r_goto (tgt := 17) dX11_pass_68 (by decide) ?_
        first | exact V.cm rfl (dp_t (by assumption) (by assumption) rfl rfl) (ih (i + 1) (by omega)) | exact V.cm rfl (dp_f (by omega)) (ih (i + 1) (by omega))
      · try rw [dp_o (by omega)] at h48
        try rw [dp_o (by omega)] at h48
        refine r_aload_n dX11_pass_51 rfl (by decide) ?_
        refine r_iload_n dX11_pass_52 rfl ?_
        refine r_iconst dX11_pass_53 (by decide) ?_
        refine r_aload_n dX11_pass_54 rfl (by decide) ?_
        refine r_iload_n dX11_pass_55 rfl ?_
        refine r_iconst dX11_pass_56 (by decide) ?_
        refine r_cv2 dX11_pass_57 clX11_66 sf429 (by decide) (by decide) rfl (by first | decide | omega) (Nat.le_of_ble_eq_true rfl) (c_get (by omega) (by decide)) ⟨Nat.zero_le _, Nat.zero_le _⟩ (fun _ => ?_)
        refine r_iconst dX11_pass_60 (by decide) ?_
        refine r_iadd dX11_pass_61 (show w32 (dpA M i 430 (15 + 7 * (i : Int) + 0) + 1) = M 430 (15 + 7 * (i : Int) + 0) + 1 by rw [dp_o (by omega)]; exact w32_id (by omega)) ?_
        refine r_cw3 dX11_pass_62 clX11_77 sf429 (by decide) (by decide) rfl (by first | decide | omega) (Nat.le_of_ble_eq_true rfl) (c_put (by omega) (by decide)) ⟨Nat.zero_le _, Nat.zero_le _⟩ ?_
        refine r_iinc dX11_pass_65 rfl rfl (by decide) (w32_id (by omega)) st1 ?_
        refine r_goto (tgt := 17) dX11_pass_68 (by decide) ?_
        first | exact V.cm rfl (dp_t (by assumption) (by assumption) rfl rfl) (ih (i + 1) (by omega)) | exact V.cm rfl (dp_f (by omega)) (ih (i + 1) (by omega))
theorem m_pass {x y z : Int} {M : Me} {n : Nat} (hn : M 430 14 = (n : Int)) (hn12 : n ≤ 12) (h10 : 0 ≤ M 430 10 ∧ M 430 10 ≤ 9999) (hd : ∀ c : Int, 0 ≤ c → c < n → 0 ≤ M 430 (15 + 7 * c + 0) ∧ M 430 (15 + 7 * c + 0) ≤ 9) : Con kX11_pass 2 0 0 [(1, 429)] (Sf x y z) M (Ex none (Sf x y z) (psA M n)) := by
  refine Con.ofV (al := [(1, 429), (9, 0)]) 1 (by decide) (Nat.le_of_ble_eq_true rfl) rfl ?_
  refine r_aload_n dX11_pass_0 rfl (by decide) ?_
  refine r_getr (x := 430) dX11_pass_1 flX11_7 sf429 (by decide) (by decide) rfl rfl ?_
  refine r_bipush dX11_pass_4 (by decide) (by decide) ?_
  refine r_iald dX11_pass_6 sf430 (by decide) (by omega) (by omega) (by decide) (by first | assumption | ((repeat (first | (apply rd_ne; · omega) | (apply rd_eq; · omega) | (apply rd_out; · omega) | (apply rd_in; · omega))); first | assumption | rfl)) ?_
  refine r_bipush dX11_pass_7 (by decide) (by decide) ?_
  refine r_irem dX11_pass_9 (by omega) (rmn (by omega)) ?_
  refine r_bipush dX11_pass_10 (by decide) (by decide) ?_
  refine r_icmp_ne (tgt := 71) dX11_pass_12 (by decide) (fun h12 => ?_) (fun h12 => ?_)
  · refine r_aload_n dX11_pass_71 rfl (by decide) ?_
    refine r_getr (x := 430) dX11_pass_72 flX11_7 sf429 (by decide) (by decide) rfl rfl ?_
    refine r_bipush dX11_pass_75 (by decide) (by decide) ?_
    refine r_dup2 dX11_pass_77 (by decide) (by decide) ?_
    refine r_iald dX11_pass_78 sf430 (by decide) (by omega) (by omega) (by decide) (by first | assumption | ((repeat (first | (apply rd_ne; · omega) | (apply rd_eq; · omega) | (apply rd_out; · omega) | (apply rd_in; · omega))); first | assumption | rfl)) ?_
    refine r_iconst dX11_pass_79 (by decide) ?_
    refine r_iadd dX11_pass_80 (w32_id (by omega)) ?_
    refine r_iast dX11_pass_81 sf430 (by decide) (by omega) (by omega) (by decide) rfl ?_
    refine r_ret0 dX11_pass_82 rfl ?_
    exact ⟨rfl, rfl, by unfold psA; first | (rw [if_pos (by assumption)]) | (rw [if_neg (by assumption)])⟩
  · refine r_iconst dX11_pass_15 (by decide) ?_
    refine r_istore_n dX11_pass_16 rfl (by decide) st1 ?_
    exact V.cm rfl dp_0.symm (l_pass hn hn12 h10 hd (by assumption) n 0 (by omega))
theorem V.wkp (pre tl : List AV) (v : AV) {k : MI} {c1 c2 dd : Nat} {xs : Option (List Int)} {Q : Option AV → Sh → Me → Prop} {pc : Nat} {st : List AV} {S : Sh} {M : Me} {n1 n2 : Nat} (k9 : V k c1 c2 dd xs Q pc (pre ++ (9, 0) :: tl) st S M n1 n2) : V k c1 c2 dd xs Q pc (pre ++ v :: tl) st S M n1 n2 := by
  intro p l e R s m args below meth c b κ D sc Tg H locs ls Cc F hn12 hW hL ho hS
  refine k9 p l e R s m args below meth c b κ D sc Tg H locs ls Cc F hn12 hW ⟨hL.1, hL.2.1, fun i w hw h9 => ?_⟩ ⟨fun w hw => ?_, ho.2⟩ hS
  · refine hL.2.2 i w ?_ h9
    by_cases h : i < pre.length
    · rw [List.getElem?_append_left h] at hw ⊢; exact hw
    · rw [List.getElem?_append_right (by omega)] at hw ⊢
      cases hj : i - pre.length with
      | zero => rw [hj] at hw; cases hw; exact absurd rfl h9
      | succ j => rw [hj] at hw; exact hw
  · rcases List.mem_append.mp hw with h | h
    · exact ho.1 w (List.mem_append_left _ h)
    · rcases List.mem_cons.mp h with rfl | h
      · exact okA_9
      · exact ho.1 w (List.mem_append_right _ (List.mem_cons_of_mem _ h))
theorem wk1 {a0 v : AV} {tl : List AV} {k : MI} {c1 c2 dd : Nat} {xs : Option (List Int)} {Q : Option AV → Sh → Me → Prop} {pc : Nat} {st : List AV} {S : Sh} {M : Me} {n1 n2 : Nat} (k9 : V k c1 c2 dd xs Q pc (a0 :: (9, 0) :: tl) st S M n1 n2) : V k c1 c2 dd xs Q pc (a0 :: v :: tl) st S M n1 n2 := V.wkp [a0] tl v k9
theorem wk2 {a0 a1 v : AV} {tl : List AV} {k : MI} {c1 c2 dd : Nat} {xs : Option (List Int)} {Q : Option AV → Sh → Me → Prop} {pc : Nat} {st : List AV} {S : Sh} {M : Me} {n1 n2 : Nat} (k9 : V k c1 c2 dd xs Q pc (a0 :: a1 :: (9, 0) :: tl) st S M n1 n2) : V k c1 c2 dd xs Q pc (a0 :: a1 :: v :: tl) st S M n1 n2 := V.wkp [a0, a1] tl v k9
theorem wk3 {a0 a1 a2 v : AV} {tl : List AV} {k : MI} {c1 c2 dd : Nat} {xs : Option (List Int)} {Q : Option AV → Sh → Me → Prop} {pc : Nat} {st : List AV} {S : Sh} {M : Me} {n1 n2 : Nat} (k9 : V k c1 c2 dd xs Q pc (a0 :: a1 :: a2 :: (9, 0) :: tl) st S M n1 n2) : V k c1 c2 dd xs Q pc (a0 :: a1 :: a2 :: v :: tl) st S M n1 n2 := V.wkp [a0, a1, a2] tl v k9
theorem wk4 {a0 a1 a2 a3 v : AV} {tl : List AV} {k : MI} {c1 c2 dd : Nat} {xs : Option (List Int)} {Q : Option AV → Sh → Me → Prop} {pc : Nat} {st : List AV} {S : Sh} {M : Me} {n1 n2 : Nat} (k9 : V k c1 c2 dd xs Q pc (a0 :: a1 :: a2 :: a3 :: (9, 0) :: tl) st S M n1 n2) : V k c1 c2 dd xs Q pc (a0 :: a1 :: a2 :: a3 :: v :: tl) st S M n1 n2 := V.wkp [a0, a1, a2, a3] tl v k9
theorem wk5 {a0 a1 a2 a3 a4 v : AV} {tl : List AV} {k : MI} {c1 c2 dd : Nat} {xs : Option (List Int)} {Q : Option AV → Sh → Me → Prop} {pc : Nat} {st : List AV} {S : Sh} {M : Me} {n1 n2 : Nat} (k9 : V k c1 c2 dd xs Q pc (a0 :: a1 :: a2 :: a3 :: a4 :: (9, 0) :: tl) st S M n1 n2) : V k c1 c2 dd xs Q pc (a0 :: a1 :: a2 :: a3 :: a4 :: v :: tl) st S M n1 n2 := V.wkp [a0, a1, a2, a3, a4] tl v k9
theorem wk6 {a0 a1 a2 a3 a4 a5 v : AV} {tl : List AV} {k : MI} {c1 c2 dd : Nat} {xs : Option (List Int)} {Q : Option AV → Sh → Me → Prop} {pc : Nat} {st : List AV} {S : Sh} {M : Me} {n1 n2 : Nat} (k9 : V k c1 c2 dd xs Q pc (a0 :: a1 :: a2 :: a3 :: a4 :: a5 :: (9, 0) :: tl) st S M n1 n2) : V k c1 c2 dd xs Q pc (a0 :: a1 :: a2 :: a3 :: a4 :: a5 :: v :: tl) st S M n1 n2 := V.wkp [a0, a1, a2, a3, a4, a5] tl v k9
theorem wk7 {a0 a1 a2 a3 a4 a5 a6 v : AV} {tl : List AV} {k : MI} {c1 c2 dd : Nat} {xs : Option (List Int)} {Q : Option AV → Sh → Me → Prop} {pc : Nat} {st : List AV} {S : Sh} {M : Me} {n1 n2 : Nat} (k9 : V k c1 c2 dd xs Q pc (a0 :: a1 :: a2 :: a3 :: a4 :: a5 :: a6 :: (9, 0) :: tl) st S M n1 n2) : V k c1 c2 dd xs Q pc (a0 :: a1 :: a2 :: a3 :: a4 :: a5 :: a6 :: v :: tl) st S M n1 n2 := V.wkp [a0, a1, a2, a3, a4, a5, a6] tl v k9
