theorem m_heat {x y z : Int} {M : Me} {h : Int} : Con kX11_heat 1 0 0 [(1, 429), (0, h)] (Sf x y z) M (fun v9 S9 M9 => S9 = (Sf x y z) ∧ ((0 ≤ h ∧ h ≤ 9) ∧ v9 = some (0, 1) ∧ M9 = up M 430 (13) (h) ∨ (¬ (0 ≤ h ∧ h ≤ 9)) ∧ v9 = some (0, 0) ∧ M9 = M)) := by
  refine Con.ofV (al := [(1, 429), (0, h)]) 0 (by decide) (Nat.le_of_ble_eq_true rfl) rfl ?_
  refine r_iload_n dX11_heat_0 rfl ?_
  refine r_iconst dX11_heat_1 (by decide) ?_
  refine r_bipush dX11_heat_2 (by decide) (by decide) ?_
  refine r_cs3 dX11_heat_4 clX11_62 (by first | decide | omega) (Nat.le_of_ble_eq_true rfl) (c_isIn) ⟨Nat.zero_le _, Nat.zero_le _⟩ (fun _ => ?_)
  refine r_if_ne (tgt := 12) dX11_heat_7 (by decide) (fun h7 => ?_) (fun h7 => ?_)
  · try have h7 := bi_1.mp h7
    refine r_aload_n dX11_heat_12 rfl (by decide) ?_
    refine r_getr (x := 430) dX11_heat_13 flX11_7 sf429 (by decide) (by decide) rfl rfl ?_
    refine r_bipush dX11_heat_16 (by decide) (by decide) ?_
    refine r_iload_n dX11_heat_18 rfl ?_
    refine r_iast dX11_heat_19 sf430 (by decide) (by omega) (by omega) (by decide) rfl ?_
    refine r_iconst dX11_heat_20 (by decide) ?_
    refine r_zret dX11_heat_21 rfl (by omega) ?_
    first | exact ⟨rfl, Or.inl ⟨by omega, rfl, rfl⟩⟩ | exact ⟨rfl, Or.inr (⟨by omega, rfl, rfl⟩)⟩
  · try have h7 := bi_0.mp h7
    refine r_iconst dX11_heat_10 (by decide) ?_
    refine r_zret dX11_heat_11 rfl (by omega) ?_
    first | exact ⟨rfl, Or.inl ⟨by omega, rfl, rfl⟩⟩ | exact ⟨rfl, Or.inr (⟨by omega, rfl, rfl⟩)⟩
theorem m_by {x y z : Int} {M : Me} {t : Int} (hb : 0 ≤ M 430 1 ∧ M 430 1 ≤ 4) : Con kX11_by 1 0 0 [(1, 429), (0, t)] (Sf x y z) M (fun v9 S9 M9 => S9 = (Sf x y z) ∧ ((-1 ≤ t ∧ t ≤ M 430 1 - 1) ∧ v9 = some (0, 1) ∧ M9 = up M 430 (2) (t) ∨ (¬ (-1 ≤ t ∧ t ≤ M 430 1 - 1)) ∧ v9 = some (0, 0) ∧ M9 = M)) := by
  refine Con.ofV (al := [(1, 429), (0, t)]) 0 (by decide) (Nat.le_of_ble_eq_true rfl) rfl ?_
  refine r_iload_n dX11_by_0 rfl ?_
  refine r_iconst dX11_by_1 (by decide) ?_
  refine r_aload_n dX11_by_2 rfl (by decide) ?_
  refine r_getr (x := 430) dX11_by_3 flX11_7 sf429 (by decide) (by decide) rfl rfl ?_
  refine r_iconst dX11_by_6 (by decide) ?_
  refine r_iald dX11_by_7 sf430 (by decide) (by omega) (by omega) (by decide) (by first | assumption | ((repeat (first | (apply rd_ne; · omega) | (apply rd_eq; · omega) | (apply rd_out; · omega) | (apply rd_in; · omega))); first | assumption | rfl)) ?_
  refine r_iconst dX11_by_8 (by decide) ?_
  refine r_isub dX11_by_9 (w32_id (by omega)) ?_
  refine r_cs3 dX11_by_10 clX11_62 (by first | decide | omega) (Nat.le_of_ble_eq_true rfl) (c_isIn) ⟨Nat.zero_le _, Nat.zero_le _⟩ (fun _ => ?_)
  refine r_if_ne (tgt := 18) dX11_by_13 (by decide) (fun h13 => ?_) (fun h13 => ?_)
  · try have h13 := bi_1.mp h13
    refine r_aload_n dX11_by_18 rfl (by decide) ?_
    refine r_getr (x := 430) dX11_by_19 flX11_7 sf429 (by decide) (by decide) rfl rfl ?_
    refine r_iconst dX11_by_22 (by decide) ?_
    refine r_iload_n dX11_by_23 rfl ?_
    refine r_iast dX11_by_24 sf430 (by decide) (by omega) (by omega) (by decide) rfl ?_
    refine r_iconst dX11_by_25 (by decide) ?_
    refine r_zret dX11_by_26 rfl (by omega) ?_
    first | exact ⟨rfl, Or.inl ⟨by omega, rfl, rfl⟩⟩ | exact ⟨rfl, Or.inr (⟨by omega, rfl, rfl⟩)⟩
  · try have h13 := bi_0.mp h13
    refine r_iconst dX11_by_16 (by decide) ?_
    refine r_zret dX11_by_17 rfl (by omega) ?_
    first | exact ⟨rfl, Or.inl ⟨by omega, rfl, rfl⟩⟩ | exact ⟨rfl, Or.inr (⟨by omega, rfl, rfl⟩)⟩
theorem m_fault {x y z : Int} {M : Me} {u : Int} : Con kX11_fault 0 0 0 [(1, 429), (0, u)] (Sf x y z) M (fun v9 S9 M9 => S9 = (Sf x y z) ∧ ((u = 0) ∧ v9 = some (0, M 429 5) ∧ M9 = M ∨ (u = 1) ∧ v9 = some (0, M 429 6) ∧ M9 = M ∨ (u ≠ 0 ∧ u ≠ 1) ∧ v9 = some (0, -1) ∧ M9 = M)) := by
  refine Con.ofV (al := [(1, 429), (0, u)]) 0 (by decide) (Nat.le_of_ble_eq_true rfl) rfl ?_
  refine r_iload_n dX11_fault_0 rfl ?_
  refine r_if_ne (tgt := 11) dX11_fault_1 (by decide) (fun h1 => ?_) (fun h1 => ?_)
  · try have h1 := bi_1.mp h1
    refine r_iload_n dX11_fault_11 rfl ?_
    refine r_iconst dX11_fault_12 (by decide) ?_
    refine r_icmp_ne (tgt := 23) dX11_fault_13 (by decide) (fun h13 => ?_) (fun h13 => ?_)
    · refine r_iconst dX11_fault_23 (by decide) ?_
      refine r_iret dX11_fault_24 rfl ?_
      first | exact ⟨rfl, Or.inl ⟨by omega, rfl, rfl⟩⟩ | exact ⟨rfl, Or.inr (Or.inl ⟨by omega, rfl, rfl⟩)⟩ | exact ⟨rfl, Or.inr (Or.inr (⟨by omega, rfl, rfl⟩))⟩
    · refine r_aload_n dX11_fault_16 rfl (by decide) ?_
      refine r_gi 6 dX11_fault_17 flX11_26 sf429 (by decide) (by decide) rfl rfl (by first | assumption | ((repeat (first | (apply rd_ne; · omega) | (apply rd_eq; · omega) | (apply rd_out; · omega) | (apply rd_in; · omega))); first | assumption | rfl)) ?_
      refine r_goto (tgt := 24) dX11_fault_20 (by decide) ?_
      refine r_iret dX11_fault_24 rfl ?_
      first | exact ⟨rfl, Or.inl ⟨by omega, rfl, rfl⟩⟩ | exact ⟨rfl, Or.inr (Or.inl ⟨by omega, rfl, rfl⟩)⟩ | exact ⟨rfl, Or.inr (Or.inr (⟨by omega, rfl, rfl⟩))⟩
  · try have h1 := bi_0.mp h1
    refine r_aload_n dX11_fault_4 rfl (by decide) ?_
    refine r_gi 5 dX11_fault_5 flX11_22 sf429 (by decide) (by decide) rfl rfl (by first | assumption | ((repeat (first | (apply rd_ne; · omega) | (apply rd_eq; · omega) | (apply rd_out; · omega) | (apply rd_in; · omega))); first | assumption | rfl)) ?_
    refine r_goto (tgt := 24) dX11_fault_8 (by decide) ?_
    refine r_iret dX11_fault_24 rfl ?_
    first | exact ⟨rfl, Or.inl ⟨by omega, rfl, rfl⟩⟩ | exact ⟨rfl, Or.inr (Or.inl ⟨by omega, rfl, rfl⟩)⟩ | exact ⟨rfl, Or.inr (Or.inr (⟨by omega, rfl, rfl⟩))⟩
theorem m_is {x y z : Int} {M : Me} {u : Int} : Con kX11_is 0 0 0 [(1, 429), (0, u)] (Sf x y z) M (fun v9 S9 M9 => S9 = (Sf x y z) ∧ ((u = 0) ∧ v9 = some (0, M 430 10) ∧ M9 = M ∨ (u = 1) ∧ v9 = some (0, M 430 13) ∧ M9 = M ∨ (u = 2) ∧ v9 = some (0, M 430 11) ∧ M9 = M ∨ (u = 3) ∧ v9 = some (0, M 430 14) ∧ M9 = M ∨ (u < 0 ∨ 3 < u) ∧ v9 = some (0, -2) ∧ M9 = M)) := by
  refine Con.ofV (al := [(1, 429), (0, u)]) 0 (by decide) (Nat.le_of_ble_eq_true rfl) rfl ?_
  refine r_iload_n dX11_is_0 rfl ?_
  rcases (show (u < 0 ∨ 3 < u) ∨ u = 0 ∨ u = 1 ∨ u = 2 ∨ u = 3 by omega) with hsw | hsw | hsw | hsw | hsw
  · refine r_tabOut (tgt := 64) dX11_is_1 hsw (by decide) ?_
    refine r_bipush dX11_is_64 (by decide) (by decide) ?_
    refine r_iret dX11_is_66 rfl ?_
    first | exact ⟨rfl, Or.inl ⟨by omega, rfl, rfl⟩⟩ | exact ⟨rfl, Or.inr (Or.inl ⟨by omega, rfl, rfl⟩)⟩ | exact ⟨rfl, Or.inr (Or.inr (Or.inl ⟨by omega, rfl, rfl⟩))⟩ | exact ⟨rfl, Or.inr (Or.inr (Or.inr (Or.inl ⟨by omega, rfl, rfl⟩)))⟩ | exact ⟨rfl, Or.inr (Or.inr (Or.inr (Or.inr (⟨by omega, rfl, rfl⟩))))⟩
  · refine r_tabEq (tgt := 32) dX11_is_1 hsw (by decide) (by decide) rfl (by decide) ?_
    refine r_aload_n dX11_is_32 rfl (by decide) ?_
    refine r_getr (x := 430) dX11_is_33 flX11_7 sf429 (by decide) (by decide) rfl rfl ?_
    refine r_bipush dX11_is_36 (by decide) (by decide) ?_
    refine r_iald dX11_is_38 sf430 (by decide) (by omega) (by omega) (by decide) (by first | assumption | ((repeat (first | (apply rd_ne; · omega) | (apply rd_eq; · omega) | (apply rd_out; · omega) | (apply rd_in; · omega))); first | assumption | rfl)) ?_
    refine r_iret dX11_is_39 rfl ?_
    first | exact ⟨rfl, Or.inl ⟨by omega, rfl, rfl⟩⟩ | exact ⟨rfl, Or.inr (Or.inl ⟨by omega, rfl, rfl⟩)⟩ | exact ⟨rfl, Or.inr (Or.inr (Or.inl ⟨by omega, rfl, rfl⟩))⟩ | exact ⟨rfl, Or.inr (Or.inr (Or.inr (Or.inl ⟨by omega, rfl, rfl⟩)))⟩ | exact ⟨rfl, Or.inr (Or.inr (Or.inr (Or.inr (⟨by omega, rfl, rfl⟩))))⟩
  · refine r_tabEq (tgt := 40) dX11_is_1 hsw (by decide) (by decide) rfl (by decide) ?_
    refine r_aload_n dX11_is_40 rfl (by decide) ?_
    refine r_getr (x := 430) dX11_is_41 flX11_7 sf429 (by decide) (by decide) rfl rfl ?_
    refine r_bipush dX11_is_44 (by decide) (by decide) ?_
    refine r_iald dX11_is_46 sf430 (by decide) (by omega) (by omega) (by decide) (by first | assumption | ((repeat (first | (apply rd_ne; · omega) | (apply rd_eq; · omega) | (apply rd_out; · omega) | (apply rd_in; · omega))); first | assumption | rfl)) ?_
    refine r_iret dX11_is_47 rfl ?_
    first | exact ⟨rfl, Or.inl ⟨by omega, rfl, rfl⟩⟩ | exact ⟨rfl, Or.inr (Or.inl ⟨by omega, rfl, rfl⟩)⟩ | exact ⟨rfl, Or.inr (Or.inr (Or.inl ⟨by omega, rfl, rfl⟩))⟩ | exact ⟨rfl, Or.inr (Or.inr (Or.inr (Or.inl ⟨by omega, rfl, rfl⟩)))⟩ | exact ⟨rfl, Or.inr (Or.inr (Or.inr (Or.inr (⟨by omega, rfl, rfl⟩))))⟩
  · refine r_tabEq (tgt := 48) dX11_is_1 hsw (by decide) (by decide) rfl (by decide) ?_
    refine r_aload_n dX11_is_48 rfl (by decide) ?_
    refine r_getr (x := 430) dX11_is_49 flX11_7 sf429 (by decide) (by decide) rfl rfl ?_
    refine r_bipush dX11_is_52 (by decide) (by decide) ?_
    refine r_iald dX11_is_54 sf430 (by decide) (by omega) (by omega) (by decide) (by first | assumption | ((repeat (first | (apply rd_ne; · omega) | (apply rd_eq; · omega) | (apply rd_out; · omega) | (apply rd_in; · omega))); first | assumption | rfl)) ?_
    refine r_iret dX11_is_55 rfl ?_
    first | exact ⟨rfl, Or.inl ⟨by omega, rfl, rfl⟩⟩ | exact ⟨rfl, Or.inr (Or.inl ⟨by omega, rfl, rfl⟩)⟩ | exact ⟨rfl, Or.inr (Or.inr (Or.inl ⟨by omega, rfl, rfl⟩))⟩ | exact ⟨rfl, Or.inr (Or.inr (Or.inr (Or.inl ⟨by omega, rfl, rfl⟩)))⟩ | exact ⟨rfl, Or.inr (Or.inr (Or.inr (Or.inr (⟨by omega, rfl, rfl⟩))))⟩
  · refine r_tabEq (tgt := 56) dX11_is_1 hsw (by decide) (by decide) rfl (by decide) ?_
    refine r_aload_n dX11_is_56 rfl (by decide) ?_
    refine r_getr (x := 430) dX11_is_57 flX11_7 sf429 (by decide) (by decide) rfl rfl ?_
    refine r_bipush dX11_is_60 (by decide) (by decide) ?_
    refine r_iald dX11_is_62 sf430 (by decide) (by omega) (by omega) (by decide) (by first | assumption | ((repeat (first | (apply rd_ne; · omega) | (apply rd_eq; · omega) | (apply rd_out; · omega) | (apply rd_in; · omega))); first | assumption | rfl)) ?_
    refine r_iret dX11_is_63 rfl ?_
    first | exact ⟨rfl, Or.inl ⟨by omega, rfl, rfl⟩⟩ | exact ⟨rfl, Or.inr (Or.inl ⟨by omega, rfl, rfl⟩)⟩ | exact ⟨rfl, Or.inr (Or.inr (Or.inl ⟨by omega, rfl, rfl⟩))⟩ | exact ⟨rfl, Or.inr (Or.inr (Or.inr (Or.inl ⟨by omega, rfl, rfl⟩)))⟩ | exact ⟨rfl, Or.inr (Or.inr (Or.inr (Or.inr (⟨by omega, rfl, rfl⟩))))⟩
theorem m_about {x y z : Int} {M : Me} {u : Int} : Con kX11_about 1 0 0 [(1, 429), (0, u)] (Sf x y z) M (fun v9 S9 M9 => S9 = (Sf x y z) ∧ ((0 ≤ u ∧ u ≤ 8) ∧ v9 = some (0, M 430 u) ∧ M9 = M ∨ (u = 9) ∧ v9 = some (0, M 429 4) ∧ M9 = M ∨ (¬ (0 ≤ u ∧ u ≤ 8) ∧ u ≠ 9) ∧ v9 = some (0, -2) ∧ M9 = M)) := by
  refine Con.ofV (al := [(1, 429), (0, u)]) 0 (by decide) (Nat.le_of_ble_eq_true rfl) rfl ?_
  refine r_iload_n dX11_about_0 rfl ?_
  refine r_iconst dX11_about_1 (by decide) ?_
  refine r_bipush dX11_about_2 (by decide) (by decide) ?_
  refine r_cs3 dX11_about_4 clX11_62 (by first | decide | omega) (Nat.le_of_ble_eq_true rfl) (c_isIn) ⟨Nat.zero_le _, Nat.zero_le _⟩ (fun _ => ?_)
  refine r_if_eq (tgt := 19) dX11_about_7 (by decide) (fun h7 => ?_) (fun h7 => ?_)
  · try have h7 := bi_0.mp h7
    refine r_iload_n dX11_about_19 rfl ?_
    refine r_bipush dX11_about_20 (by decide) (by decide) ?_
    refine r_icmp_ne (tgt := 32) dX11_about_22 (by decide) (fun h22 => ?_) (fun h22 => ?_)
    · refine r_bipush dX11_about_32 (by decide) (by decide) ?_
      refine r_iret dX11_about_34 rfl ?_
      first | exact ⟨rfl, Or.inl ⟨by omega, rfl, rfl⟩⟩ | exact ⟨rfl, Or.inr (Or.inl ⟨by omega, rfl, rfl⟩)⟩ | exact ⟨rfl, Or.inr (Or.inr (⟨by omega, rfl, rfl⟩))⟩
    · refine r_aload_n dX11_about_25 rfl (by decide) ?_
      refine r_gi 4 dX11_about_26 flX11_88 sf429 (by decide) (by decide) rfl rfl (by first | assumption | ((repeat (first | (apply rd_ne; · omega) | (apply rd_eq; · omega) | (apply rd_out; · omega) | (apply rd_in; · omega))); first | assumption | rfl)) ?_
      refine r_goto (tgt := 34) dX11_about_29 (by decide) ?_
      refine r_iret dX11_about_34 rfl ?_
      first | exact ⟨rfl, Or.inl ⟨by omega, rfl, rfl⟩⟩ | exact ⟨rfl, Or.inr (Or.inl ⟨by omega, rfl, rfl⟩)⟩ | exact ⟨rfl, Or.inr (Or.inr (⟨by omega, rfl, rfl⟩))⟩
  · try have h7 := bi_1.mp h7
    refine r_aload_n dX11_about_10 rfl (by decide) ?_
    refine r_getr (x := 430) dX11_about_11 flX11_7 sf429 (by decide) (by decide) rfl rfl ?_
    refine r_iload_n dX11_about_14 rfl ?_
    refine r_iald dX11_about_15 sf430 (by decide) (by omega) (by omega) (by decide) (by first | assumption | ((repeat (first | (apply rd_ne; · omega) | (apply rd_eq; · omega) | (apply rd_out; · omega) | (apply rd_in; · omega))); first | assumption | rfl)) ?_
    refine r_goto (tgt := 34) dX11_about_16 (by decide) ?_
    refine r_iret dX11_about_34 rfl ?_
    first | exact ⟨rfl, Or.inl ⟨by omega, rfl, rfl⟩⟩ | exact ⟨rfl, Or.inr (Or.inl ⟨by omega, rfl, rfl⟩)⟩ | exact ⟨rfl, Or.inr (Or.inr (⟨by omega, rfl, rfl⟩))⟩
theorem m_want {x y z : Int} {M : Me} {c g : Int} (hb : 0 ≤ M 430 4 ∧ M 430 4 ≤ 8) (h14 : 0 ≤ M 430 14 ∧ M 430 14 ≤ 12) : Con kX11_want 2 0 0 [(1, 429), (0, c), (0, g)] (Sf x y z) M (fun v9 S9 M9 => S9 = (Sf x y z) ∧ ((c = -1) ∧ v9 = some (0, 0) ∧ M9 = up M 430 (4) (0) ∨ (c ≠ -1 ∧ (0 ≤ c ∧ c ≤ M 430 14 - 1) ∧ (0 ≤ g ∧ g ≤ 1) ∧ M 430 4 ≠ 8) ∧ v9 = some (0, M 430 4 + 1) ∧ M9 = up (up (up M 430 (114 + 2 * M 430 4) (c)) 430 (114 + 2 * M 430 4 + 1) (g)) 430 (4) (M 430 4 + 1) ∨ (c ≠ -1 ∧ ¬ ((0 ≤ c ∧ c ≤ M 430 14 - 1) ∧ (0 ≤ g ∧ g ≤ 1) ∧ M 430 4 ≠ 8)) ∧ v9 = some (0, -2) ∧ M9 = M)) := by
  refine Con.ofV (al := [(1, 429), (0, c), (0, g)]) 0 (by decide) (Nat.le_of_ble_eq_true rfl) rfl ?_
  refine r_iload_n dX11_want_0 rfl ?_
  refine r_iconst dX11_want_1 (by decide) ?_
  refine r_icmp_ne (tgt := 14) dX11_want_2 (by decide) (fun h2 => ?_) (fun h2 => ?_)
  · refine r_aload_n dX11_want_14 rfl (by decide) ?_
    refine r_iload_n dX11_want_15 rfl ?_
    refine r_cv1 dX11_want_16 clX11_81 sf429 (by decide) (by decide) rfl (by first | decide | omega) (Nat.le_of_ble_eq_true rfl) (m_isCrease h14) ⟨Nat.zero_le _, Nat.zero_le _⟩ (fun _ => ?_)
    refine r_if_eq (tgt := 42) dX11_want_19 (by decide) (fun h19 => ?_) (fun h19 => ?_)
    · try have h19 := bi_0.mp h19
      refine r_bipush dX11_want_42 (by decide) (by decide) ?_
      refine r_iret dX11_want_44 rfl ?_
      first | exact ⟨rfl, Or.inl ⟨by omega, rfl, rfl⟩⟩ | exact ⟨rfl, Or.inr (Or.inl ⟨by omega, rfl, rfl⟩)⟩ | exact ⟨rfl, Or.inr (Or.inr (⟨by omega, rfl, rfl⟩))⟩
    · try have h19 := bi_1.mp h19
      refine r_iload_n dX11_want_22 rfl ?_
      refine r_iconst dX11_want_23 (by decide) ?_
      refine r_iconst dX11_want_24 (by decide) ?_
      refine r_cs3 dX11_want_25 clX11_62 (by first | decide | omega) (Nat.le_of_ble_eq_true rfl) (c_isIn) ⟨Nat.zero_le _, Nat.zero_le _⟩ (fun _ => ?_)
      refine r_if_eq (tgt := 42) dX11_want_28 (by decide) (fun h28 => ?_) (fun h28 => ?_)
      · try have h28 := bi_0.mp h28
        refine r_bipush dX11_want_42 (by decide) (by decide) ?_
        refine r_iret dX11_want_44 rfl ?_
        first | exact ⟨rfl, Or.inl ⟨by omega, rfl, rfl⟩⟩ | exact ⟨rfl, Or.inr (Or.inl ⟨by omega, rfl, rfl⟩)⟩ | exact ⟨rfl, Or.inr (Or.inr (⟨by omega, rfl, rfl⟩))⟩
      · try have h28 := bi_1.mp h28
        refine r_aload_n dX11_want_31 rfl (by decide) ?_
        refine r_getr (x := 430) dX11_want_32 flX11_7 sf429 (by decide) (by decide) rfl rfl ?_
        refine r_iconst dX11_want_35 (by decide) ?_
        refine r_iald dX11_want_36 sf430 (by decide) (by omega) (by omega) (by decide) (by first | assumption | ((repeat (first | (apply rd_ne; · omega) | (apply rd_eq; · omega) | (apply rd_out; · omega) | (apply rd_in; · omega))); first | assumption | rfl)) ?_
        refine r_bipush dX11_want_37 (by decide) (by decide) ?_
        refine r_icmp_ne (tgt := 45) dX11_want_39 (by decide) (fun h39 => ?_) (fun h39 => ?_)
        · refine r_aload_n dX11_want_45 rfl (by decide) ?_
          refine r_getr (x := 430) dX11_want_46 flX11_7 sf429 (by decide) (by decide) rfl rfl ?_
          refine r_bipush dX11_want_49 (by decide) (by decide) ?_
          refine r_iconst dX11_want_51 (by decide) ?_
          refine r_aload_n dX11_want_52 rfl (by decide) ?_
          refine r_getr (x := 430) dX11_want_53 flX11_7 sf429 (by decide) (by decide) rfl rfl ?_
          refine r_iconst dX11_want_56 (by decide) ?_
          refine r_iald dX11_want_57 sf430 (by decide) (by omega) (by omega) (by decide) (by first | assumption | ((repeat (first | (apply rd_ne; · omega) | (apply rd_eq; · omega) | (apply rd_out; · omega) | (apply rd_in; · omega))); first | assumption | rfl)) ?_
          refine r_imul dX11_want_58 (w32_id (by omega)) ?_
          refine r_iadd dX11_want_59 (w32_id (by omega)) ?_
          refine r_iload_n dX11_want_60 rfl ?_
          refine r_iast dX11_want_61 sf430 (by decide) (by omega) (by omega) (by decide) rfl ?_
          refine r_aload_n dX11_want_62 rfl (by decide) ?_
          refine r_getr (x := 430) dX11_want_63 flX11_7 sf429 (by decide) (by decide) rfl rfl ?_
          refine r_bipush dX11_want_66 (by decide) (by decide) ?_
          refine r_iconst dX11_want_68 (by decide) ?_
          refine r_aload_n dX11_want_69 rfl (by decide) ?_
          refine r_getr (x := 430) dX11_want_70 flX11_7 sf429 (by decide) (by decide) rfl rfl ?_
          refine r_iconst dX11_want_73 (by decide) ?_
          refine r_iald dX11_want_74 sf430 (by decide) (by omega) (by omega) (by decide) (by first | assumption | ((repeat (first | (apply rd_ne; · omega) | (apply rd_eq; · omega) | (apply rd_out; · omega) | (apply rd_in; · omega))); first | assumption | rfl)) ?_
          refine r_imul dX11_want_75 (w32_id (by omega)) ?_
          refine r_iadd dX11_want_76 (w32_id (by omega)) ?_
          refine r_iconst dX11_want_77 (by decide) ?_
          refine r_iadd dX11_want_78 (w32_id (by omega)) ?_
          refine r_iload_n dX11_want_79 rfl ?_
          refine r_iast dX11_want_80 sf430 (by decide) (by omega) (by omega) (by decide) rfl ?_
          refine r_aload_n dX11_want_81 rfl (by decide) ?_
          refine r_getr (x := 430) dX11_want_82 flX11_7 sf429 (by decide) (by decide) rfl rfl ?_
          refine r_iconst dX11_want_85 (by decide) ?_
          refine r_dup2 dX11_want_86 (by decide) (by decide) ?_
          refine r_iald dX11_want_87 sf430 (by decide) (by omega) (by omega) (by decide) (by first | assumption | ((repeat (first | (apply rd_ne; · omega) | (apply rd_eq; · omega) | (apply rd_out; · omega) | (apply rd_in; · omega))); first | assumption | rfl)) ?_
          refine r_iconst dX11_want_88 (by decide) ?_
          refine r_iadd dX11_want_89 (w32_id (by omega)) ?_
          refine r_iast dX11_want_90 sf430 (by decide) (by omega) (by omega) (by decide) rfl ?_
          refine r_aload_n dX11_want_91 rfl (by decide) ?_
          refine r_getr (x := 430) dX11_want_92 flX11_7 sf429 (by decide) (by decide) rfl rfl ?_
          refine r_iconst dX11_want_95 (by decide) ?_
          refine r_iald dX11_want_96 sf430 (by decide) (by omega) (by omega) (by decide) (by first | assumption | ((repeat (first | (apply rd_ne; · omega) | (apply rd_eq; · omega) | (apply rd_out; · omega) | (apply rd_in; · omega))); first | assumption | rfl)) ?_
          refine r_iret dX11_want_97 rfl ?_
          first | exact ⟨rfl, Or.inl ⟨by omega, rfl, rfl⟩⟩ | exact ⟨rfl, Or.inr (Or.inl ⟨by omega, rfl, rfl⟩)⟩ | exact ⟨rfl, Or.inr (Or.inr (⟨by omega, rfl, rfl⟩))⟩
        · refine r_bipush dX11_want_42 (by decide) (by decide) ?_
          refine r_iret dX11_want_44 rfl ?_
          first | exact ⟨rfl, Or.inl ⟨by omega, rfl, rfl⟩⟩ | exact ⟨rfl, Or.inr (Or.inl ⟨by omega, rfl, rfl⟩)⟩ | exact ⟨rfl, Or.inr (Or.inr (⟨by omega, rfl, rfl⟩))⟩
  · refine r_aload_n dX11_want_5 rfl (by decide) ?_
    refine r_getr (x := 430) dX11_want_6 flX11_7 sf429 (by decide) (by decide) rfl rfl ?_
    refine r_iconst dX11_want_9 (by decide) ?_
    refine r_iconst dX11_want_10 (by decide) ?_
    refine r_iast dX11_want_11 sf430 (by decide) (by omega) (by omega) (by decide) rfl ?_
    refine r_iconst dX11_want_12 (by decide) ?_
    refine r_iret dX11_want_13 rfl ?_
    first | exact ⟨rfl, Or.inl ⟨by omega, rfl, rfl⟩⟩ | exact ⟨rfl, Or.inr (Or.inl ⟨by omega, rfl, rfl⟩)⟩ | exact ⟨rfl, Or.inr (Or.inr (⟨by omega, rfl, rfl⟩))⟩
theorem m_board {x y z : Int} {M : Me} {h : Int} (hb : 0 ≤ M 430 5 ∧ M 430 5 ≤ 8) : Con kX11_board 1 0 0 [(1, 429), (0, h)] (Sf x y z) M (fun v9 S9 M9 => S9 = (Sf x y z) ∧ ((h = -1) ∧ v9 = some (0, 0) ∧ M9 = up M 430 (5) (0) ∨ (h ≠ -1 ∧ (1 ≤ h ∧ h ≤ 99) ∧ M 430 5 ≠ 8) ∧ v9 = some (0, M 430 5 + 1) ∧ M9 = up (up M 430 (130 + M 430 5) (h)) 430 (5) (M 430 5 + 1) ∨ (h ≠ -1 ∧ ¬ ((1 ≤ h ∧ h ≤ 99) ∧ M 430 5 ≠ 8)) ∧ v9 = some (0, -2) ∧ M9 = M)) := by
  refine Con.ofV (al := [(1, 429), (0, h)]) 0 (by decide) (Nat.le_of_ble_eq_true rfl) rfl ?_
  refine r_iload_n dX11_board_0 rfl ?_
  refine r_iconst dX11_board_1 (by decide) ?_
  refine r_icmp_ne (tgt := 14) dX11_board_2 (by decide) (fun h2 => ?_) (fun h2 => ?_)
  · refine r_iload_n dX11_board_14 rfl ?_
    refine r_iconst dX11_board_15 (by decide) ?_
    refine r_bipush dX11_board_16 (by decide) (by decide) ?_
    refine r_cs3 dX11_board_18 clX11_62 (by first | decide | omega) (Nat.le_of_ble_eq_true rfl) (c_isIn) ⟨Nat.zero_le _, Nat.zero_le _⟩ (fun _ => ?_)
    refine r_if_eq (tgt := 35) dX11_board_21 (by decide) (fun h21 => ?_) (fun h21 => ?_)
    · try have h21 := bi_0.mp h21
      refine r_bipush dX11_board_35 (by decide) (by decide) ?_
      refine r_iret dX11_board_37 rfl ?_
      first | exact ⟨rfl, Or.inl ⟨by omega, rfl, rfl⟩⟩ | exact ⟨rfl, Or.inr (Or.inl ⟨by omega, rfl, rfl⟩)⟩ | exact ⟨rfl, Or.inr (Or.inr (⟨by omega, rfl, rfl⟩))⟩
    · try have h21 := bi_1.mp h21
      refine r_aload_n dX11_board_24 rfl (by decide) ?_
      refine r_getr (x := 430) dX11_board_25 flX11_7 sf429 (by decide) (by decide) rfl rfl ?_
      refine r_iconst dX11_board_28 (by decide) ?_
      refine r_iald dX11_board_29 sf430 (by decide) (by omega) (by omega) (by decide) (by first | assumption | ((repeat (first | (apply rd_ne; · omega) | (apply rd_eq; · omega) | (apply rd_out; · omega) | (apply rd_in; · omega))); first | assumption | rfl)) ?_
      refine r_bipush dX11_board_30 (by decide) (by decide) ?_
      refine r_icmp_ne (tgt := 38) dX11_board_32 (by decide) (fun h32 => ?_) (fun h32 => ?_)
      · refine r_aload_n dX11_board_38 rfl (by decide) ?_
        refine r_getr (x := 430) dX11_board_39 flX11_7 sf429 (by decide) (by decide) rfl rfl ?_
        refine r_sipush dX11_board_42 (by decide) (by decide) ?_
        refine r_aload_n dX11_board_45 rfl (by decide) ?_
        refine r_getr (x := 430) dX11_board_46 flX11_7 sf429 (by decide) (by decide) rfl rfl ?_
        refine r_iconst dX11_board_49 (by decide) ?_
        refine r_iald dX11_board_50 sf430 (by decide) (by omega) (by omega) (by decide) (by first | assumption | ((repeat (first | (apply rd_ne; · omega) | (apply rd_eq; · omega) | (apply rd_out; · omega) | (apply rd_in; · omega))); first | assumption | rfl)) ?_
        refine r_iadd dX11_board_51 (w32_id (by omega)) ?_
        refine r_iload_n dX11_board_52 rfl ?_
        refine r_iast dX11_board_53 sf430 (by decide) (by omega) (by omega) (by decide) rfl ?_
        refine r_aload_n dX11_board_54 rfl (by decide) ?_
        refine r_getr (x := 430) dX11_board_55 flX11_7 sf429 (by decide) (by decide) rfl rfl ?_
        refine r_iconst dX11_board_58 (by decide) ?_
        refine r_dup2 dX11_board_59 (by decide) (by decide) ?_
        refine r_iald dX11_board_60 sf430 (by decide) (by omega) (by omega) (by decide) (by first | assumption | ((repeat (first | (apply rd_ne; · omega) | (apply rd_eq; · omega) | (apply rd_out; · omega) | (apply rd_in; · omega))); first | assumption | rfl)) ?_
        refine r_iconst dX11_board_61 (by decide) ?_
        refine r_iadd dX11_board_62 (w32_id (by omega)) ?_
        refine r_iast dX11_board_63 sf430 (by decide) (by omega) (by omega) (by decide) rfl ?_
        refine r_aload_n dX11_board_64 rfl (by decide) ?_
        refine r_getr (x := 430) dX11_board_65 flX11_7 sf429 (by decide) (by decide) rfl rfl ?_
        refine r_iconst dX11_board_68 (by decide) ?_
        refine r_iald dX11_board_69 sf430 (by decide) (by omega) (by omega) (by decide) (by first | assumption | ((repeat (first | (apply rd_ne; · omega) | (apply rd_eq; · omega) | (apply rd_out; · omega) | (apply rd_in; · omega))); first | assumption | rfl)) ?_
        refine r_iret dX11_board_70 rfl ?_
        first | exact ⟨rfl, Or.inl ⟨by omega, rfl, rfl⟩⟩ | exact ⟨rfl, Or.inr (Or.inl ⟨by omega, rfl, rfl⟩)⟩ | exact ⟨rfl, Or.inr (Or.inr (⟨by omega, rfl, rfl⟩))⟩
      · refine r_bipush dX11_board_35 (by decide) (by decide) ?_
        refine r_iret dX11_board_37 rfl ?_
        first | exact ⟨rfl, Or.inl ⟨by omega, rfl, rfl⟩⟩ | exact ⟨rfl, Or.inr (Or.inl ⟨by omega, rfl, rfl⟩)⟩ | exact ⟨rfl, Or.inr (Or.inr (⟨by omega, rfl, rfl⟩))⟩
  · refine r_aload_n dX11_board_5 rfl (by decide) ?_
    refine r_getr (x := 430) dX11_board_6 flX11_7 sf429 (by decide) (by decide) rfl rfl ?_
    refine r_iconst dX11_board_9 (by decide) ?_
    refine r_iconst dX11_board_10 (by decide) ?_
    refine r_iast dX11_board_11 sf430 (by decide) (by omega) (by omega) (by decide) rfl ?_
    refine r_iconst dX11_board_12 (by decide) ?_
    refine r_iret dX11_board_13 rfl ?_
    first | exact ⟨rfl, Or.inl ⟨by omega, rfl, rfl⟩⟩ | exact ⟨rfl, Or.inr (Or.inl ⟨by omega, rfl, rfl⟩)⟩ | exact ⟨rfl, Or.inr (Or.inr (⟨by omega, rfl, rfl⟩))⟩
theorem m_seam {x y z : Int} {M : Me} {f t s : Int} (hb : 0 ≤ M 430 6 ∧ M 430 6 ≤ 8) : Con kX11_seam 1 0 0 [(1, 429), (0, f), (0, t), (0, s)] (Sf x y z) M (fun v9 S9 M9 => S9 = (Sf x y z) ∧ ((f = -1) ∧ v9 = some (0, 0) ∧ M9 = up M 430 (6) (0) ∨ (f ≠ -1 ∧ (0 ≤ f ∧ f ≤ 99) ∧ (f ≤ t ∧ t ≤ 99) ∧ (0 ≤ s ∧ s ≤ 999) ∧ M 430 6 ≠ 8) ∧ v9 = some (0, M 430 6 + 1) ∧ M9 = up (up (up (up M 430 (138 + 3 * M 430 6) (f)) 430 (138 + 3 * M 430 6 + 1) (t)) 430 (138 + 3 * M 430 6 + 2) (s)) 430 (6) (M 430 6 + 1) ∨ (f ≠ -1 ∧ ¬ ((0 ≤ f ∧ f ≤ 99) ∧ (f ≤ t ∧ t ≤ 99) ∧ (0 ≤ s ∧ s ≤ 999) ∧ M 430 6 ≠ 8)) ∧ v9 = some (0, -2) ∧ M9 = M)) := by
  refine Con.ofV (al := [(1, 429), (0, f), (0, t), (0, s), (9, 0)]) 1 (by decide) (Nat.le_of_ble_eq_true rfl) rfl ?_
  refine r_iload_n dX11_seam_0 rfl ?_
  refine r_iconst dX11_seam_1 (by decide) ?_
  refine r_icmp_ne (tgt := 15) dX11_seam_2 (by decide) (fun h2 => ?_) (fun h2 => ?_)
  · refine r_iload_n dX11_seam_15 rfl ?_
    refine r_iconst dX11_seam_16 (by decide) ?_
    refine r_bipush dX11_seam_17 (by decide) (by decide) ?_
    refine r_cs3 dX11_seam_19 clX11_62 (by first | decide | omega) (Nat.le_of_ble_eq_true rfl) (c_isIn) ⟨Nat.zero_le _, Nat.zero_le _⟩ (fun _ => ?_)
    refine r_if_eq (tgt := 58) dX11_seam_22 (by decide) (fun h22 => ?_) (fun h22 => ?_)
    · try have h22 := bi_0.mp h22
      refine r_bipush dX11_seam_58 (by decide) (by decide) ?_
      refine r_iret dX11_seam_60 rfl ?_
      first | exact ⟨rfl, Or.inl ⟨by omega, rfl, rfl⟩⟩ | exact ⟨rfl, Or.inr (Or.inl ⟨by omega, rfl, rfl⟩)⟩ | exact ⟨rfl, Or.inr (Or.inr (⟨by omega, rfl, rfl⟩))⟩
    · try have h22 := bi_1.mp h22
      refine r_iload_n dX11_seam_25 rfl ?_
      refine r_iload_n dX11_seam_26 rfl ?_
      refine r_bipush dX11_seam_27 (by decide) (by decide) ?_
      refine r_cs3 dX11_seam_29 clX11_62 (by first | decide | omega) (Nat.le_of_ble_eq_true rfl) (c_isIn) ⟨Nat.zero_le _, Nat.zero_le _⟩ (fun _ => ?_)
      refine r_if_eq (tgt := 58) dX11_seam_32 (by decide) (fun h32 => ?_) (fun h32 => ?_)
      · try have h32 := bi_0.mp h32
        refine r_bipush dX11_seam_58 (by decide) (by decide) ?_
        refine r_iret dX11_seam_60 rfl ?_
        first | exact ⟨rfl, Or.inl ⟨by omega, rfl, rfl⟩⟩ | exact ⟨rfl, Or.inr (Or.inl ⟨by omega, rfl, rfl⟩)⟩ | exact ⟨rfl, Or.inr (Or.inr (⟨by omega, rfl, rfl⟩))⟩
      · try have h32 := bi_1.mp h32
        refine r_iload_n dX11_seam_35 rfl ?_
        refine r_iconst dX11_seam_36 (by decide) ?_
        refine r_sipush dX11_seam_37 (by decide) (by decide) ?_
        refine r_cs3 dX11_seam_40 clX11_62 (by first | decide | omega) (Nat.le_of_ble_eq_true rfl) (c_isIn) ⟨Nat.zero_le _, Nat.zero_le _⟩ (fun _ => ?_)
        refine r_if_eq (tgt := 58) dX11_seam_43 (by decide) (fun h43 => ?_) (fun h43 => ?_)
        · try have h43 := bi_0.mp h43
          refine r_bipush dX11_seam_58 (by decide) (by decide) ?_
          refine r_iret dX11_seam_60 rfl ?_
          first | exact ⟨rfl, Or.inl ⟨by omega, rfl, rfl⟩⟩ | exact ⟨rfl, Or.inr (Or.inl ⟨by omega, rfl, rfl⟩)⟩ | exact ⟨rfl, Or.inr (Or.inr (⟨by omega, rfl, rfl⟩))⟩
        · try have h43 := bi_1.mp h43
          refine r_aload_n dX11_seam_46 rfl (by decide) ?_
          refine r_getr (x := 430) dX11_seam_47 flX11_7 sf429 (by decide) (by decide) rfl rfl ?_
          refine r_bipush dX11_seam_50 (by decide) (by decide) ?_
          refine r_iald dX11_seam_52 sf430 (by decide) (by omega) (by omega) (by decide) (by first | assumption | ((repeat (first | (apply rd_ne; · omega) | (apply rd_eq; · omega) | (apply rd_out; · omega) | (apply rd_in; · omega))); first | assumption | rfl)) ?_
          refine r_bipush dX11_seam_53 (by decide) (by decide) ?_
          refine r_icmp_ne (tgt := 61) dX11_seam_55 (by decide) (fun h55 => ?_) (fun h55 => ?_)
          · refine r_sipush dX11_seam_61 (by decide) (by decide) ?_
            refine r_iconst dX11_seam_64 (by decide) ?_
            refine r_aload_n dX11_seam_65 rfl (by decide) ?_
            refine r_getr (x := 430) dX11_seam_66 flX11_7 sf429 (by decide) (by decide) rfl rfl ?_
            refine r_bipush dX11_seam_69 (by decide) (by decide) ?_
            refine r_iald dX11_seam_71 sf430 (by decide) (by omega) (by omega) (by decide) (by first | assumption | ((repeat (first | (apply rd_ne; · omega) | (apply rd_eq; · omega) | (apply rd_out; · omega) | (apply rd_in; · omega))); first | assumption | rfl)) ?_
            refine r_imul dX11_seam_72 (w32_id (by omega)) ?_
            refine r_iadd dX11_seam_73 (w32_id (by omega)) ?_
            refine r_istore dX11_seam_74 rfl (by decide) st4 ?_
            refine r_aload_n dX11_seam_76 rfl (by decide) ?_
            refine r_getr (x := 430) dX11_seam_77 flX11_7 sf429 (by decide) (by decide) rfl rfl ?_
            refine r_iload dX11_seam_80 rfl ?_
            refine r_iload_n dX11_seam_82 rfl ?_
            refine r_iast dX11_seam_83 sf430 (by decide) (by omega) (by omega) (by decide) rfl ?_
            refine r_aload_n dX11_seam_84 rfl (by decide) ?_
            refine r_getr (x := 430) dX11_seam_85 flX11_7 sf429 (by decide) (by decide) rfl rfl ?_
            refine r_iload dX11_seam_88 rfl ?_
            refine r_iconst dX11_seam_90 (by decide) ?_
            refine r_iadd dX11_seam_91 (w32_id (by omega)) ?_
            refine r_iload_n dX11_seam_92 rfl ?_
            refine r_iast dX11_seam_93 sf430 (by decide) (by omega) (by omega) (by decide) rfl ?_
            refine r_aload_n dX11_seam_94 rfl (by decide) ?_
            refine r_getr (x := 430) dX11_seam_95 flX11_7 sf429 (by decide) (by decide) rfl rfl ?_
            refine r_iload dX11_seam_98 rfl ?_
            refine r_iconst dX11_seam_100 (by decide) ?_
            refine r_iadd dX11_seam_101 (w32_id (by omega)) ?_
            refine r_iload_n dX11_seam_102 rfl ?_
            refine r_iast dX11_seam_103 sf430 (by decide) (by omega) (by omega) (by decide) rfl ?_
            refine r_aload_n dX11_seam_104 rfl (by decide) ?_
            refine r_getr (x := 430) dX11_seam_105 flX11_7 sf429 (by decide) (by decide) rfl rfl ?_
            refine r_bipush dX11_seam_108 (by decide) (by decide) ?_
            refine r_dup2 dX11_seam_110 (by decide) (by decide) ?_
            refine r_iald dX11_seam_111 sf430 (by decide) (by omega) (by omega) (by decide) (by first | assumption | ((repeat (first | (apply rd_ne; · omega) | (apply rd_eq; · omega) | (apply rd_out; · omega) | (apply rd_in; · omega))); first | assumption | rfl)) ?_
            refine r_iconst dX11_seam_112 (by decide) ?_
            refine r_iadd dX11_seam_113 (w32_id (by omega)) ?_
            refine r_iast dX11_seam_114 sf430 (by decide) (by omega) (by omega) (by decide) rfl ?_
            refine r_aload_n dX11_seam_115 rfl (by decide) ?_
            refine r_getr (x := 430) dX11_seam_116 flX11_7 sf429 (by decide) (by decide) rfl rfl ?_
            refine r_bipush dX11_seam_119 (by decide) (by decide) ?_
            refine r_iald dX11_seam_121 sf430 (by decide) (by omega) (by omega) (by decide) (by first | assumption | ((repeat (first | (apply rd_ne; · omega) | (apply rd_eq; · omega) | (apply rd_out; · omega) | (apply rd_in; · omega))); first | assumption | rfl)) ?_
            refine r_iret dX11_seam_122 rfl ?_
            first | exact ⟨rfl, Or.inl ⟨by omega, rfl, rfl⟩⟩ | exact ⟨rfl, Or.inr (Or.inl ⟨by omega, rfl, rfl⟩)⟩ | exact ⟨rfl, Or.inr (Or.inr (⟨by omega, rfl, rfl⟩))⟩
          · refine r_bipush dX11_seam_58 (by decide) (by decide) ?_
            refine r_iret dX11_seam_60 rfl ?_
            first | exact ⟨rfl, Or.inl ⟨by omega, rfl, rfl⟩⟩ | exact ⟨rfl, Or.inr (Or.inl ⟨by omega, rfl, rfl⟩)⟩ | exact ⟨rfl, Or.inr (Or.inr (⟨by omega, rfl, rfl⟩))⟩
  · refine r_aload_n dX11_seam_5 rfl (by decide) ?_
    refine r_getr (x := 430) dX11_seam_6 flX11_7 sf429 (by decide) (by decide) rfl rfl ?_
    refine r_bipush dX11_seam_9 (by decide) (by decide) ?_
    refine r_iconst dX11_seam_11 (by decide) ?_
    refine r_iast dX11_seam_12 sf430 (by decide) (by omega) (by omega) (by decide) rfl ?_
    refine r_iconst dX11_seam_13 (by decide) ?_
    refine r_iret dX11_seam_14 rfl ?_
    first | exact ⟨rfl, Or.inl ⟨by omega, rfl, rfl⟩⟩ | exact ⟨rfl, Or.inr (Or.inl ⟨by omega, rfl, rfl⟩)⟩ | exact ⟨rfl, Or.inr (Or.inr (⟨by omega, rfl, rfl⟩))⟩
theorem m_heir {x y z : Int} {M : Me} {h : Int} (hb : 0 ≤ M 430 7 ∧ M 430 7 ≤ 6) : Con kX11_heir 1 0 0 [(1, 429), (0, h)] (Sf x y z) M (fun v9 S9 M9 => S9 = (Sf x y z) ∧ ((h = -1) ∧ v9 = some (0, 0) ∧ M9 = up M 430 (7) (0) ∨ (h ≠ -1 ∧ (1 ≤ h ∧ h ≤ 999) ∧ M 430 7 ≠ 6) ∧ v9 = some (0, M 430 7 + 1) ∧ M9 = up (up M 430 (162 + M 430 7) (h)) 430 (7) (M 430 7 + 1) ∨ (h ≠ -1 ∧ ¬ ((1 ≤ h ∧ h ≤ 999) ∧ M 430 7 ≠ 6)) ∧ v9 = some (0, -2) ∧ M9 = M)) := by
  refine Con.ofV (al := [(1, 429), (0, h)]) 0 (by decide) (Nat.le_of_ble_eq_true rfl) rfl ?_
  refine r_iload_n dX11_heir_0 rfl ?_
  refine r_iconst dX11_heir_1 (by decide) ?_
  refine r_icmp_ne (tgt := 15) dX11_heir_2 (by decide) (fun h2 => ?_) (fun h2 => ?_)
  · refine r_iload_n dX11_heir_15 rfl ?_
    refine r_iconst dX11_heir_16 (by decide) ?_
    refine r_sipush dX11_heir_17 (by decide) (by decide) ?_
    refine r_cs3 dX11_heir_20 clX11_62 (by first | decide | omega) (Nat.le_of_ble_eq_true rfl) (c_isIn) ⟨Nat.zero_le _, Nat.zero_le _⟩ (fun _ => ?_)
    refine r_if_eq (tgt := 38) dX11_heir_23 (by decide) (fun h23 => ?_) (fun h23 => ?_)
    · try have h23 := bi_0.mp h23
      refine r_bipush dX11_heir_38 (by decide) (by decide) ?_
      refine r_iret dX11_heir_40 rfl ?_
      first | exact ⟨rfl, Or.inl ⟨by omega, rfl, rfl⟩⟩ | exact ⟨rfl, Or.inr (Or.inl ⟨by omega, rfl, rfl⟩)⟩ | exact ⟨rfl, Or.inr (Or.inr (⟨by omega, rfl, rfl⟩))⟩
    · try have h23 := bi_1.mp h23
      refine r_aload_n dX11_heir_26 rfl (by decide) ?_
      refine r_getr (x := 430) dX11_heir_27 flX11_7 sf429 (by decide) (by decide) rfl rfl ?_
      refine r_bipush dX11_heir_30 (by decide) (by decide) ?_
      refine r_iald dX11_heir_32 sf430 (by decide) (by omega) (by omega) (by decide) (by first | assumption | ((repeat (first | (apply rd_ne; · omega) | (apply rd_eq; · omega) | (apply rd_out; · omega) | (apply rd_in; · omega))); first | assumption | rfl)) ?_
      refine r_bipush dX11_heir_33 (by decide) (by decide) ?_
      refine r_icmp_ne (tgt := 41) dX11_heir_35 (by decide) (fun h35 => ?_) (fun h35 => ?_)
      · refine r_aload_n dX11_heir_41 rfl (by decide) ?_
        refine r_getr (x := 430) dX11_heir_42 flX11_7 sf429 (by decide) (by decide) rfl rfl ?_
        refine r_sipush dX11_heir_45 (by decide) (by decide) ?_
        refine r_aload_n dX11_heir_48 rfl (by decide) ?_
        refine r_getr (x := 430) dX11_heir_49 flX11_7 sf429 (by decide) (by decide) rfl rfl ?_
        refine r_bipush dX11_heir_52 (by decide) (by decide) ?_
        refine r_iald dX11_heir_54 sf430 (by decide) (by omega) (by omega) (by decide) (by first | assumption | ((repeat (first | (apply rd_ne; · omega) | (apply rd_eq; · omega) | (apply rd_out; · omega) | (apply rd_in; · omega))); first | assumption | rfl)) ?_
        refine r_iadd dX11_heir_55 (w32_id (by omega)) ?_
        refine r_iload_n dX11_heir_56 rfl ?_
        refine r_iast dX11_heir_57 sf430 (by decide) (by omega) (by omega) (by decide) rfl ?_
        refine r_aload_n dX11_heir_58 rfl (by decide) ?_
        refine r_getr (x := 430) dX11_heir_59 flX11_7 sf429 (by decide) (by decide) rfl rfl ?_
        refine r_bipush dX11_heir_62 (by decide) (by decide) ?_
        refine r_dup2 dX11_heir_64 (by decide) (by decide) ?_
        refine r_iald dX11_heir_65 sf430 (by decide) (by omega) (by omega) (by decide) (by first | assumption | ((repeat (first | (apply rd_ne; · omega) | (apply rd_eq; · omega) | (apply rd_out; · omega) | (apply rd_in; · omega))); first | assumption | rfl)) ?_
        refine r_iconst dX11_heir_66 (by decide) ?_
        refine r_iadd dX11_heir_67 (w32_id (by omega)) ?_
        refine r_iast dX11_heir_68 sf430 (by decide) (by omega) (by omega) (by decide) rfl ?_
        refine r_aload_n dX11_heir_69 rfl (by decide) ?_
        refine r_getr (x := 430) dX11_heir_70 flX11_7 sf429 (by decide) (by decide) rfl rfl ?_
        refine r_bipush dX11_heir_73 (by decide) (by decide) ?_
        refine r_iald dX11_heir_75 sf430 (by decide) (by omega) (by omega) (by decide) (by first | assumption | ((repeat (first | (apply rd_ne; · omega) | (apply rd_eq; · omega) | (apply rd_out; · omega) | (apply rd_in; · omega))); first | assumption | rfl)) ?_
        refine r_iret dX11_heir_76 rfl ?_
        first | exact ⟨rfl, Or.inl ⟨by omega, rfl, rfl⟩⟩ | exact ⟨rfl, Or.inr (Or.inl ⟨by omega, rfl, rfl⟩)⟩ | exact ⟨rfl, Or.inr (Or.inr (⟨by omega, rfl, rfl⟩))⟩
      · refine r_bipush dX11_heir_38 (by decide) (by decide) ?_
        refine r_iret dX11_heir_40 rfl ?_
        first | exact ⟨rfl, Or.inl ⟨by omega, rfl, rfl⟩⟩ | exact ⟨rfl, Or.inr (Or.inl ⟨by omega, rfl, rfl⟩)⟩ | exact ⟨rfl, Or.inr (Or.inr (⟨by omega, rfl, rfl⟩))⟩
  · refine r_aload_n dX11_heir_5 rfl (by decide) ?_
    refine r_getr (x := 430) dX11_heir_6 flX11_7 sf429 (by decide) (by decide) rfl rfl ?_
    refine r_bipush dX11_heir_9 (by decide) (by decide) ?_
    refine r_iconst dX11_heir_11 (by decide) ?_
    refine r_iast dX11_heir_12 sf430 (by decide) (by omega) (by omega) (by decide) rfl ?_
    refine r_iconst dX11_heir_13 (by decide) ?_
    refine r_iret dX11_heir_14 rfl ?_
    first | exact ⟨rfl, Or.inl ⟨by omega, rfl, rfl⟩⟩ | exact ⟨rfl, Or.inr (Or.inl ⟨by omega, rfl, rfl⟩)⟩ | exact ⟨rfl, Or.inr (Or.inr (⟨by omega, rfl, rfl⟩))⟩
theorem m_offer {x y z : Int} {M : Me} {h : Int} (hb : 0 ≤ M 430 8 ∧ M 430 8 ≤ 8) : Con kX11_offer 1 0 0 [(1, 429), (0, h)] (Sf x y z) M (fun v9 S9 M9 => S9 = (Sf x y z) ∧ ((h = -1) ∧ v9 = some (0, 0) ∧ M9 = up M 430 (8) (0) ∨ (h ≠ -1 ∧ (0 ≤ h ∧ h ≤ 999) ∧ M 430 8 ≠ 8) ∧ v9 = some (0, M 430 8 + 1) ∧ M9 = up (up M 430 (168 + M 430 8) (h)) 430 (8) (M 430 8 + 1) ∨ (h ≠ -1 ∧ ¬ ((0 ≤ h ∧ h ≤ 999) ∧ M 430 8 ≠ 8)) ∧ v9 = some (0, -2) ∧ M9 = M)) := by
  refine Con.ofV (al := [(1, 429), (0, h)]) 0 (by decide) (Nat.le_of_ble_eq_true rfl) rfl ?_
  refine r_iload_n dX11_offer_0 rfl ?_
  refine r_iconst dX11_offer_1 (by decide) ?_
  refine r_icmp_ne (tgt := 15) dX11_offer_2 (by decide) (fun h2 => ?_) (fun h2 => ?_)
  · refine r_iload_n dX11_offer_15 rfl ?_
    refine r_iconst dX11_offer_16 (by decide) ?_
    refine r_sipush dX11_offer_17 (by decide) (by decide) ?_
    refine r_cs3 dX11_offer_20 clX11_62 (by first | decide | omega) (Nat.le_of_ble_eq_true rfl) (c_isIn) ⟨Nat.zero_le _, Nat.zero_le _⟩ (fun _ => ?_)
    refine r_if_eq (tgt := 38) dX11_offer_23 (by decide) (fun h23 => ?_) (fun h23 => ?_)
    · try have h23 := bi_0.mp h23
      refine r_bipush dX11_offer_38 (by decide) (by decide) ?_
      refine r_iret dX11_offer_40 rfl ?_
      first | exact ⟨rfl, Or.inl ⟨by omega, rfl, rfl⟩⟩ | exact ⟨rfl, Or.inr (Or.inl ⟨by omega, rfl, rfl⟩)⟩ | exact ⟨rfl, Or.inr (Or.inr (⟨by omega, rfl, rfl⟩))⟩
    · try have h23 := bi_1.mp h23
      refine r_aload_n dX11_offer_26 rfl (by decide) ?_
      refine r_getr (x := 430) dX11_offer_27 flX11_7 sf429 (by decide) (by decide) rfl rfl ?_
      refine r_bipush dX11_offer_30 (by decide) (by decide) ?_
      refine r_iald dX11_offer_32 sf430 (by decide) (by omega) (by omega) (by decide) (by first | assumption | ((repeat (first | (apply rd_ne; · omega) | (apply rd_eq; · omega) | (apply rd_out; · omega) | (apply rd_in; · omega))); first | assumption | rfl)) ?_
      refine r_bipush dX11_offer_33 (by decide) (by decide) ?_
      refine r_icmp_ne (tgt := 41) dX11_offer_35 (by decide) (fun h35 => ?_) (fun h35 => ?_)
      · refine r_aload_n dX11_offer_41 rfl (by decide) ?_
        refine r_getr (x := 430) dX11_offer_42 flX11_7 sf429 (by decide) (by decide) rfl rfl ?_
        refine r_sipush dX11_offer_45 (by decide) (by decide) ?_
        refine r_aload_n dX11_offer_48 rfl (by decide) ?_
        refine r_getr (x := 430) dX11_offer_49 flX11_7 sf429 (by decide) (by decide) rfl rfl ?_
        refine r_bipush dX11_offer_52 (by decide) (by decide) ?_
        refine r_iald dX11_offer_54 sf430 (by decide) (by omega) (by omega) (by decide) (by first | assumption | ((repeat (first | (apply rd_ne; · omega) | (apply rd_eq; · omega) | (apply rd_out; · omega) | (apply rd_in; · omega))); first | assumption | rfl)) ?_
        refine r_iadd dX11_offer_55 (w32_id (by omega)) ?_
        refine r_iload_n dX11_offer_56 rfl ?_
        refine r_iast dX11_offer_57 sf430 (by decide) (by omega) (by omega) (by decide) rfl ?_
        refine r_aload_n dX11_offer_58 rfl (by decide) ?_
        refine r_getr (x := 430) dX11_offer_59 flX11_7 sf429 (by decide) (by decide) rfl rfl ?_
        refine r_bipush dX11_offer_62 (by decide) (by decide) ?_
        refine r_dup2 dX11_offer_64 (by decide) (by decide) ?_
        refine r_iald dX11_offer_65 sf430 (by decide) (by omega) (by omega) (by decide) (by first | assumption | ((repeat (first | (apply rd_ne; · omega) | (apply rd_eq; · omega) | (apply rd_out; · omega) | (apply rd_in; · omega))); first | assumption | rfl)) ?_
        refine r_iconst dX11_offer_66 (by decide) ?_
        refine r_iadd dX11_offer_67 (w32_id (by omega)) ?_
        refine r_iast dX11_offer_68 sf430 (by decide) (by omega) (by omega) (by decide) rfl ?_
        refine r_aload_n dX11_offer_69 rfl (by decide) ?_
        refine r_getr (x := 430) dX11_offer_70 flX11_7 sf429 (by decide) (by decide) rfl rfl ?_
        refine r_bipush dX11_offer_73 (by decide) (by decide) ?_
        refine r_iald dX11_offer_75 sf430 (by decide) (by omega) (by omega) (by decide) (by first | assumption | ((repeat (first | (apply rd_ne; · omega) | (apply rd_eq; · omega) | (apply rd_out; · omega) | (apply rd_in; · omega))); first | assumption | rfl)) ?_
        refine r_iret dX11_offer_76 rfl ?_
        first | exact ⟨rfl, Or.inl ⟨by omega, rfl, rfl⟩⟩ | exact ⟨rfl, Or.inr (Or.inl ⟨by omega, rfl, rfl⟩)⟩ | exact ⟨rfl, Or.inr (Or.inr (⟨by omega, rfl, rfl⟩))⟩
      · refine r_bipush dX11_offer_38 (by decide) (by decide) ?_
        refine r_iret dX11_offer_40 rfl ?_
        first | exact ⟨rfl, Or.inl ⟨by omega, rfl, rfl⟩⟩ | exact ⟨rfl, Or.inr (Or.inl ⟨by omega, rfl, rfl⟩)⟩ | exact ⟨rfl, Or.inr (Or.inr (⟨by omega, rfl, rfl⟩))⟩
  · refine r_aload_n dX11_offer_5 rfl (by decide) ?_
    refine r_getr (x := 430) dX11_offer_6 flX11_7 sf429 (by decide) (by decide) rfl rfl ?_
    refine r_bipush dX11_offer_9 (by decide) (by decide) ?_
    refine r_iconst dX11_offer_11 (by decide) ?_
    refine r_iast dX11_offer_12 sf430 (by decide) (by omega) (by omega) (by decide) rfl ?_
    refine r_iconst dX11_offer_13 (by decide) ?_
    refine r_iret dX11_offer_14 rfl ?_
    first | exact ⟨rfl, Or.inl ⟨by omega, rfl, rfl⟩⟩ | exact ⟨rfl, Or.inr (Or.inl ⟨by omega, rfl, rfl⟩)⟩ | exact ⟨rfl, Or.inr (Or.inr (⟨by omega, rfl, rfl⟩))⟩
theorem m_priced {x y z : Int} {M : Me} {c g : Int} (hb : 0 ≤ M 430 9 ∧ M 430 9 ≤ 8) (h14 : 0 ≤ M 430 14 ∧ M 430 14 ≤ 12) : Con kX11_priced 2 0 0 [(1, 429), (0, c), (0, g)] (Sf x y z) M (fun v9 S9 M9 => S9 = (Sf x y z) ∧ ((c = -1) ∧ v9 = some (0, 0) ∧ M9 = up M 430 (9) (0) ∨ (c ≠ -1 ∧ (0 ≤ c ∧ c ≤ M 430 14 - 1) ∧ (0 ≤ g ∧ g ≤ 9999) ∧ M 430 9 ≠ 8) ∧ v9 = some (0, M 430 9 + 1) ∧ M9 = up (up (up M 430 (176 + 2 * M 430 9) (c)) 430 (176 + 2 * M 430 9 + 1) (g)) 430 (9) (M 430 9 + 1) ∨ (c ≠ -1 ∧ ¬ ((0 ≤ c ∧ c ≤ M 430 14 - 1) ∧ (0 ≤ g ∧ g ≤ 9999) ∧ M 430 9 ≠ 8)) ∧ v9 = some (0, -2) ∧ M9 = M)) := by
  refine Con.ofV (al := [(1, 429), (0, c), (0, g)]) 0 (by decide) (Nat.le_of_ble_eq_true rfl) rfl ?_
  refine r_iload_n dX11_priced_0 rfl ?_
  refine r_iconst dX11_priced_1 (by decide) ?_
  refine r_icmp_ne (tgt := 15) dX11_priced_2 (by decide) (fun h2 => ?_) (fun h2 => ?_)
  · refine r_aload_n dX11_priced_15 rfl (by decide) ?_
    refine r_iload_n dX11_priced_16 rfl ?_
    refine r_cv1 dX11_priced_17 clX11_81 sf429 (by decide) (by decide) rfl (by first | decide | omega) (Nat.le_of_ble_eq_true rfl) (m_isCrease h14) ⟨Nat.zero_le _, Nat.zero_le _⟩ (fun _ => ?_)
    refine r_if_eq (tgt := 46) dX11_priced_20 (by decide) (fun h20 => ?_) (fun h20 => ?_)
    · try have h20 := bi_0.mp h20
      refine r_bipush dX11_priced_46 (by decide) (by decide) ?_
      refine r_iret dX11_priced_48 rfl ?_
      first | exact ⟨rfl, Or.inl ⟨by omega, rfl, rfl⟩⟩ | exact ⟨rfl, Or.inr (Or.inl ⟨by omega, rfl, rfl⟩)⟩ | exact ⟨rfl, Or.inr (Or.inr (⟨by omega, rfl, rfl⟩))⟩
    · try have h20 := bi_1.mp h20
      refine r_iload_n dX11_priced_23 rfl ?_
      refine r_iconst dX11_priced_24 (by decide) ?_
      refine r_sipush dX11_priced_25 (by decide) (by decide) ?_
      refine r_cs3 dX11_priced_28 clX11_62 (by first | decide | omega) (Nat.le_of_ble_eq_true rfl) (c_isIn) ⟨Nat.zero_le _, Nat.zero_le _⟩ (fun _ => ?_)
      refine r_if_eq (tgt := 46) dX11_priced_31 (by decide) (fun h31 => ?_) (fun h31 => ?_)
      · try have h31 := bi_0.mp h31
        refine r_bipush dX11_priced_46 (by decide) (by decide) ?_
        refine r_iret dX11_priced_48 rfl ?_
        first | exact ⟨rfl, Or.inl ⟨by omega, rfl, rfl⟩⟩ | exact ⟨rfl, Or.inr (Or.inl ⟨by omega, rfl, rfl⟩)⟩ | exact ⟨rfl, Or.inr (Or.inr (⟨by omega, rfl, rfl⟩))⟩
      · try have h31 := bi_1.mp h31
        refine r_aload_n dX11_priced_34 rfl (by decide) ?_
        refine r_getr (x := 430) dX11_priced_35 flX11_7 sf429 (by decide) (by decide) rfl rfl ?_
        refine r_bipush dX11_priced_38 (by decide) (by decide) ?_
        refine r_iald dX11_priced_40 sf430 (by decide) (by omega) (by omega) (by decide) (by first | assumption | ((repeat (first | (apply rd_ne; · omega) | (apply rd_eq; · omega) | (apply rd_out; · omega) | (apply rd_in; · omega))); first | assumption | rfl)) ?_
        refine r_bipush dX11_priced_41 (by decide) (by decide) ?_
        refine r_icmp_ne (tgt := 49) dX11_priced_43 (by decide) (fun h43 => ?_) (fun h43 => ?_)
        · refine r_aload_n dX11_priced_49 rfl (by decide) ?_
          refine r_getr (x := 430) dX11_priced_50 flX11_7 sf429 (by decide) (by decide) rfl rfl ?_
          refine r_sipush dX11_priced_53 (by decide) (by decide) ?_
          refine r_iconst dX11_priced_56 (by decide) ?_
          refine r_aload_n dX11_priced_57 rfl (by decide) ?_
          refine r_getr (x := 430) dX11_priced_58 flX11_7 sf429 (by decide) (by decide) rfl rfl ?_
          refine r_bipush dX11_priced_61 (by decide) (by decide) ?_
          refine r_iald dX11_priced_63 sf430 (by decide) (by omega) (by omega) (by decide) (by first | assumption | ((repeat (first | (apply rd_ne; · omega) | (apply rd_eq; · omega) | (apply rd_out; · omega) | (apply rd_in; · omega))); first | assumption | rfl)) ?_
          refine r_imul dX11_priced_64 (w32_id (by omega)) ?_
          refine r_iadd dX11_priced_65 (w32_id (by omega)) ?_
          refine r_iload_n dX11_priced_66 rfl ?_
          refine r_iast dX11_priced_67 sf430 (by decide) (by omega) (by omega) (by decide) rfl ?_
          refine r_aload_n dX11_priced_68 rfl (by decide) ?_
          refine r_getr (x := 430) dX11_priced_69 flX11_7 sf429 (by decide) (by decide) rfl rfl ?_
          refine r_sipush dX11_priced_72 (by decide) (by decide) ?_
          refine r_iconst dX11_priced_75 (by decide) ?_
          refine r_aload_n dX11_priced_76 rfl (by decide) ?_
          refine r_getr (x := 430) dX11_priced_77 flX11_7 sf429 (by decide) (by decide) rfl rfl ?_
          refine r_bipush dX11_priced_80 (by decide) (by decide) ?_
          refine r_iald dX11_priced_82 sf430 (by decide) (by omega) (by omega) (by decide) (by first | assumption | ((repeat (first | (apply rd_ne; · omega) | (apply rd_eq; · omega) | (apply rd_out; · omega) | (apply rd_in; · omega))); first | assumption | rfl)) ?_
          refine r_imul dX11_priced_83 (w32_id (by omega)) ?_
          refine r_iadd dX11_priced_84 (w32_id (by omega)) ?_
          refine r_iconst dX11_priced_85 (by decide) ?_
          refine r_iadd dX11_priced_86 (w32_id (by omega)) ?_
          refine r_iload_n dX11_priced_87 rfl ?_
          refine r_iast dX11_priced_88 sf430 (by decide) (by omega) (by omega) (by decide) rfl ?_
          refine r_aload_n dX11_priced_89 rfl (by decide) ?_
          refine r_getr (x := 430) dX11_priced_90 flX11_7 sf429 (by decide) (by decide) rfl rfl ?_
          refine r_bipush dX11_priced_93 (by decide) (by decide) ?_
          refine r_dup2 dX11_priced_95 (by decide) (by decide) ?_
          refine r_iald dX11_priced_96 sf430 (by decide) (by omega) (by omega) (by decide) (by first | assumption | ((repeat (first | (apply rd_ne; · omega) | (apply rd_eq; · omega) | (apply rd_out; · omega) | (apply rd_in; · omega))); first | assumption | rfl)) ?_
          refine r_iconst dX11_priced_97 (by decide) ?_
          refine r_iadd dX11_priced_98 (w32_id (by omega)) ?_
          refine r_iast dX11_priced_99 sf430 (by decide) (by omega) (by omega) (by decide) rfl ?_
          refine r_aload_n dX11_priced_100 rfl (by decide) ?_
          refine r_getr (x := 430) dX11_priced_101 flX11_7 sf429 (by decide) (by decide) rfl rfl ?_
          refine r_bipush dX11_priced_104 (by decide) (by decide) ?_
          refine r_iald dX11_priced_106 sf430 (by decide) (by omega) (by omega) (by decide) (by first | assumption | ((repeat (first | (apply rd_ne; · omega) | (apply rd_eq; · omega) | (apply rd_out; · omega) | (apply rd_in; · omega))); first | assumption | rfl)) ?_
          refine r_iret dX11_priced_107 rfl ?_
          first | exact ⟨rfl, Or.inl ⟨by omega, rfl, rfl⟩⟩ | exact ⟨rfl, Or.inr (Or.inl ⟨by omega, rfl, rfl⟩)⟩ | exact ⟨rfl, Or.inr (Or.inr (⟨by omega, rfl, rfl⟩))⟩
        · refine r_bipush dX11_priced_46 (by decide) (by decide) ?_
          refine r_iret dX11_priced_48 rfl ?_
          first | exact ⟨rfl, Or.inl ⟨by omega, rfl, rfl⟩⟩ | exact ⟨rfl, Or.inr (Or.inl ⟨by omega, rfl, rfl⟩)⟩ | exact ⟨rfl, Or.inr (Or.inr (⟨by omega, rfl, rfl⟩))⟩
  · refine r_aload_n dX11_priced_5 rfl (by decide) ?_
    refine r_getr (x := 430) dX11_priced_6 flX11_7 sf429 (by decide) (by decide) rfl rfl ?_
    refine r_bipush dX11_priced_9 (by decide) (by decide) ?_
    refine r_iconst dX11_priced_11 (by decide) ?_
    refine r_iast dX11_priced_12 sf430 (by decide) (by omega) (by omega) (by decide) rfl ?_
    refine r_iconst dX11_priced_13 (by decide) ?_
    refine r_iret dX11_priced_14 rfl ?_
    first | exact ⟨rfl, Or.inl ⟨by omega, rfl, rfl⟩⟩ | exact ⟨rfl, Or.inr (Or.inl ⟨by omega, rfl, rfl⟩)⟩ | exact ⟨rfl, Or.inr (Or.inr (⟨by omega, rfl, rfl⟩))⟩
theorem m_end {x y z : Int} {M : Me} {h : Int} : Con kX11_end 1 0 0 [(1, 429), (0, h)] (Sf x y z) M (fun v9 S9 M9 => S9 = (Sf x y z) ∧ (((0 ≤ h ∧ h ≤ M 429 4)) ∧ v9 = some (0, h) ∧ M9 = up M 429 (4) (h) ∨ (¬ (0 ≤ h ∧ h ≤ M 429 4)) ∧ v9 = some (0, -1) ∧ M9 = M)) := by
  refine Con.ofV (al := [(1, 429), (0, h)]) 0 (by decide) (Nat.le_of_ble_eq_true rfl) rfl ?_
  refine r_iload_n dX11_end_0 rfl ?_
  refine r_iconst dX11_end_1 (by decide) ?_
  refine r_aload_n dX11_end_2 rfl (by decide) ?_
  refine r_gi 4 dX11_end_3 flX11_88 sf429 (by decide) (by decide) rfl rfl (by first | assumption | ((repeat (first | (apply rd_ne; · omega) | (apply rd_eq; · omega) | (apply rd_out; · omega) | (apply rd_in; · omega))); first | assumption | rfl)) ?_
  refine r_cs3 dX11_end_6 clX11_62 (by first | decide | omega) (Nat.le_of_ble_eq_true rfl) (c_isIn) ⟨Nat.zero_le _, Nat.zero_le _⟩ (fun _ => ?_)
  refine r_if_ne (tgt := 14) dX11_end_9 (by decide) (fun h9 => ?_) (fun h9 => ?_)
  · try have h9 := bi_1.mp h9
    refine r_aload_n dX11_end_14 rfl (by decide) ?_
    refine r_iload_n dX11_end_15 rfl ?_
    refine r_pi 4 dX11_end_16 fpX11_88 sf429 (by decide) (by decide) rfl rfl ?_
    refine r_iload_n dX11_end_19 rfl ?_
    refine r_iret dX11_end_20 rfl ?_
    first | exact ⟨rfl, Or.inl ⟨by omega, rfl, rfl⟩⟩ | exact ⟨rfl, Or.inr (⟨by omega, rfl, rfl⟩)⟩
  · try have h9 := bi_0.mp h9
    refine r_iconst dX11_end_12 (by decide) ?_
    refine r_iret dX11_end_13 rfl ?_
    first | exact ⟨rfl, Or.inl ⟨by omega, rfl, rfl⟩⟩ | exact ⟨rfl, Or.inr (⟨by omega, rfl, rfl⟩)⟩
def ent0 (e u : Int) : Int := if u = 0 then e / 64 else if u = 1 then e / 4 % 16 else e % 4
theorem m_entry {x y z : Int} {M : Me} {i u : Int} (hi : 0 ≤ i ∧ i < 30) (he : 0 ≤ M 430 (2112 + i) ∧ M 430 (2112 + i) < 1000000) : Con kX11_entry 0 0 0 [(1, 429), (0, i), (0, u)] (Sf x y z) M (Ex (some (0, ent0 (M 430 (2112 + i)) u)) (Sf x y z) M) := by
  refine Con.ofV (al := [(1, 429), (0, i), (0, u)]) 0 (by decide) (Nat.le_of_ble_eq_true rfl) rfl ?_
  refine r_iload_n dX11_entry_0 rfl ?_
  refine r_if_ne (tgt := 20) dX11_entry_1 (by decide) (fun h1 => ?_) (fun h1 => ?_)
  · try have h1 := bi_1.mp h1
    refine r_iload_n dX11_entry_20 rfl ?_
    refine r_iconst dX11_entry_21 (by decide) ?_
    refine r_icmp_ne (tgt := 43) dX11_entry_22 (by decide) (fun h22 => ?_) (fun h22 => ?_)
    · refine r_aload_n dX11_entry_43 rfl (by decide) ?_
      refine r_getr (x := 430) dX11_entry_44 flX11_7 sf429 (by decide) (by decide) rfl rfl ?_
      refine r_sipush dX11_entry_47 (by decide) (by decide) ?_
      refine r_iload_n dX11_entry_50 rfl ?_
      refine r_iadd dX11_entry_51 (w32_id (by omega)) ?_
      refine r_iald dX11_entry_52 sf430 (by decide) (by omega) (by omega) (by decide) (by first | assumption | ((repeat (first | (apply rd_ne; · omega) | (apply rd_eq; · omega) | (apply rd_out; · omega) | (apply rd_in; · omega))); first | assumption | rfl)) ?_
      refine r_iconst dX11_entry_53 (by decide) ?_
      refine r_irem dX11_entry_54 (by omega) (rmn (by omega)) ?_
      refine r_iret dX11_entry_55 rfl ?_
      refine ⟨?_, rfl, rfl⟩; unfold ent0; first | rw [if_pos (by omega)] | rw [if_neg (by omega), if_pos (by omega)] | rw [if_neg (by omega), if_neg (by omega)]
    · refine r_aload_n dX11_entry_25 rfl (by decide) ?_
      refine r_getr (x := 430) dX11_entry_26 flX11_7 sf429 (by decide) (by decide) rfl rfl ?_
      refine r_sipush dX11_entry_29 (by decide) (by decide) ?_
      refine r_iload_n dX11_entry_32 rfl ?_
      refine r_iadd dX11_entry_33 (w32_id (by omega)) ?_
      refine r_iald dX11_entry_34 sf430 (by decide) (by omega) (by omega) (by decide) (by first | assumption | ((repeat (first | (apply rd_ne; · omega) | (apply rd_eq; · omega) | (apply rd_out; · omega) | (apply rd_in; · omega))); first | assumption | rfl)) ?_
      refine r_iconst dX11_entry_35 (by decide) ?_
      refine r_idiv dX11_entry_36 (by omega) (dvn (by omega) (by omega) (by omega)) ?_
      refine r_bipush dX11_entry_37 (by decide) (by decide) ?_
      refine r_irem dX11_entry_39 (by omega) (rmn (by omega)) ?_
      refine r_goto (tgt := 55) dX11_entry_40 (by decide) ?_
      refine r_iret dX11_entry_55 rfl ?_
      refine ⟨?_, rfl, rfl⟩; unfold ent0; first | rw [if_pos (by omega)] | rw [if_neg (by omega), if_pos (by omega)] | rw [if_neg (by omega), if_neg (by omega)]
  · try have h1 := bi_0.mp h1
    refine r_aload_n dX11_entry_4 rfl (by decide) ?_
    refine r_getr (x := 430) dX11_entry_5 flX11_7 sf429 (by decide) (by decide) rfl rfl ?_
    refine r_sipush dX11_entry_8 (by decide) (by decide) ?_
    refine r_iload_n dX11_entry_11 rfl ?_
    refine r_iadd dX11_entry_12 (w32_id (by omega)) ?_
    refine r_iald dX11_entry_13 sf430 (by decide) (by omega) (by omega) (by decide) (by first | assumption | ((repeat (first | (apply rd_ne; · omega) | (apply rd_eq; · omega) | (apply rd_out; · omega) | (apply rd_in; · omega))); first | assumption | rfl)) ?_
    refine r_bipush dX11_entry_14 (by decide) (by decide) ?_
    refine r_idiv dX11_entry_16 (by omega) (dvn (by omega) (by omega) (by omega)) ?_
    refine r_goto (tgt := 55) dX11_entry_17 (by decide) ?_
    refine r_iret dX11_entry_55 rfl ?_
    refine ⟨?_, rfl, rfl⟩; unfold ent0; first | rw [if_pos (by omega)] | rw [if_neg (by omega), if_pos (by omega)] | rw [if_neg (by omega), if_neg (by omega)]
theorem m_book {x y z : Int} {M : Me} {i u : Int} (hb : 0 ≤ M 430 12 ∧ M 430 12 ≤ 30) (he : ∀ i : Int, 0 ≤ i → i < 30 → 0 ≤ M 430 (2112 + i) ∧ M 430 (2112 + i) < 1000000) : Con kX11_book 1 0 0 [(1, 429), (0, i), (0, u)] (Sf x y z) M (fun v9 S9 M9 => S9 = (Sf x y z) ∧ ((i = -1) ∧ v9 = some (0, M 430 12) ∧ M9 = M ∨ (i ≠ -1 ∧ (0 ≤ i ∧ i ≤ M 430 12 - 1) ∧ (0 ≤ u ∧ u ≤ 2)) ∧ v9 = some (0, ent0 (M 430 (2112 + i)) u) ∧ M9 = M ∨ (i ≠ -1 ∧ ¬ ((0 ≤ i ∧ i ≤ M 430 12 - 1) ∧ (0 ≤ u ∧ u ≤ 2))) ∧ v9 = some (0, -2) ∧ M9 = M)) := by
  refine Con.ofV (al := [(1, 429), (0, i), (0, u)]) 0 (by decide) (Nat.le_of_ble_eq_true rfl) rfl ?_
  refine r_iload_n dX11_book_0 rfl ?_
  refine r_iconst dX11_book_1 (by decide) ?_
  refine r_icmp_ne (tgt := 13) dX11_book_2 (by decide) (fun h2 => ?_) (fun h2 => ?_)
  · refine r_iload_n dX11_book_13 rfl ?_
    refine r_iconst dX11_book_14 (by decide) ?_
    refine r_aload_n dX11_book_15 rfl (by decide) ?_
    refine r_getr (x := 430) dX11_book_16 flX11_7 sf429 (by decide) (by decide) rfl rfl ?_
    refine r_bipush dX11_book_19 (by decide) (by decide) ?_
    refine r_iald dX11_book_21 sf430 (by decide) (by omega) (by omega) (by decide) (by first | assumption | ((repeat (first | (apply rd_ne; · omega) | (apply rd_eq; · omega) | (apply rd_out; · omega) | (apply rd_in; · omega))); first | assumption | rfl)) ?_
    refine r_iconst dX11_book_22 (by decide) ?_
    refine r_isub dX11_book_23 (w32_id (by omega)) ?_
    refine r_cs3 dX11_book_24 clX11_62 (by first | decide | omega) (Nat.le_of_ble_eq_true rfl) (c_isIn) ⟨Nat.zero_le _, Nat.zero_le _⟩ (fun _ => ?_)
    refine r_if_eq (tgt := 48) dX11_book_27 (by decide) (fun h27 => ?_) (fun h27 => ?_)
    · try have h27 := bi_0.mp h27
      refine r_bipush dX11_book_48 (by decide) (by decide) ?_
      refine r_iret dX11_book_50 rfl ?_
      first | exact ⟨rfl, Or.inl ⟨by omega, rfl, rfl⟩⟩ | exact ⟨rfl, Or.inr (Or.inl ⟨by omega, rfl, rfl⟩)⟩ | exact ⟨rfl, Or.inr (Or.inr (⟨by omega, rfl, rfl⟩))⟩
    · try have h27 := bi_1.mp h27
      refine r_iload_n dX11_book_30 rfl ?_
      refine r_iconst dX11_book_31 (by decide) ?_
      refine r_iconst dX11_book_32 (by decide) ?_
      refine r_cs3 dX11_book_33 clX11_62 (by first | decide | omega) (Nat.le_of_ble_eq_true rfl) (c_isIn) ⟨Nat.zero_le _, Nat.zero_le _⟩ (fun _ => ?_)
      refine r_if_eq (tgt := 48) dX11_book_36 (by decide) (fun h36 => ?_) (fun h36 => ?_)
      · try have h36 := bi_0.mp h36
        refine r_bipush dX11_book_48 (by decide) (by decide) ?_
        refine r_iret dX11_book_50 rfl ?_
        first | exact ⟨rfl, Or.inl ⟨by omega, rfl, rfl⟩⟩ | exact ⟨rfl, Or.inr (Or.inl ⟨by omega, rfl, rfl⟩)⟩ | exact ⟨rfl, Or.inr (Or.inr (⟨by omega, rfl, rfl⟩))⟩
      · try have h36 := bi_1.mp h36
        refine r_aload_n dX11_book_39 rfl (by decide) ?_
        refine r_iload_n dX11_book_40 rfl ?_
        refine r_iload_n dX11_book_41 rfl ?_
        refine r_cv2 dX11_book_42 clX11_396 sf429 (by decide) (by decide) rfl (by first | decide | omega) (Nat.le_of_ble_eq_true rfl) (m_entry (by omega) (he _ (by omega) (by omega))) ⟨Nat.zero_le _, Nat.zero_le _⟩ (fun _ => ?_)
        refine r_goto (tgt := 50) dX11_book_45 (by decide) ?_
        refine r_iret dX11_book_50 rfl ?_
        first | exact ⟨rfl, Or.inl ⟨by omega, rfl, rfl⟩⟩ | exact ⟨rfl, Or.inr (Or.inl ⟨by omega, rfl, rfl⟩)⟩ | exact ⟨rfl, Or.inr (Or.inr (⟨by omega, rfl, rfl⟩))⟩
  · refine r_aload_n dX11_book_5 rfl (by decide) ?_
    refine r_getr (x := 430) dX11_book_6 flX11_7 sf429 (by decide) (by decide) rfl rfl ?_
    refine r_bipush dX11_book_9 (by decide) (by decide) ?_
    refine r_iald dX11_book_11 sf430 (by decide) (by omega) (by omega) (by decide) (by first | assumption | ((repeat (first | (apply rd_ne; · omega) | (apply rd_eq; · omega) | (apply rd_out; · omega) | (apply rd_in; · omega))); first | assumption | rfl)) ?_
    refine r_iret dX11_book_12 rfl ?_
    first | exact ⟨rfl, Or.inl ⟨by omega, rfl, rfl⟩⟩ | exact ⟨rfl, Or.inr (Or.inl ⟨by omega, rfl, rfl⟩)⟩ | exact ⟨rfl, Or.inr (Or.inr (⟨by omega, rfl, rfl⟩))⟩
