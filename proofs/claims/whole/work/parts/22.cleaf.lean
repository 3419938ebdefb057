theorem s_isPerson {x y z : Int} {M : Me} {p : Int} : Con kX6_isPerson 0 0 0 [(1, 49), (0, p)] (Sf x y z) M (Ex (some (0, bi (0 ≤ p ∧ p < M 50 2))) (Sf x y z) M) := by
  refine Con.ofV (al := [(1, 49), (0, p)]) 0 (by decide) (Nat.le_of_ble_eq_true rfl) rfl ?_
  refine r_iload_n dX6_isPerson_0 rfl ?_
  refine r_if_lt (tgt := 19) dX6_isPerson_1 (by decide) (fun h1 => ?_) (fun h1 => ?_)
  · refine r_iconst dX6_isPerson_19 (by decide) ?_
    refine r_zret dX6_isPerson_20 rfl (by omega) ?_
    first | exact ⟨by rw [bi_t (by first | assumption | omega)], rfl, rfl⟩ | exact ⟨by rw [bi_f (by first | assumption | omega)], rfl, rfl⟩
  · refine r_iload_n dX6_isPerson_4 rfl ?_
    refine r_aload_n dX6_isPerson_5 rfl (by decide) ?_
    refine r_getr (x := 50) dX6_isPerson_6 flX6_21 sf49 (by decide) (by decide) rfl rfl ?_
    refine r_gi 2 dX6_isPerson_9 flX6_108 sf50 (by decide) (by decide) rfl rfl (by first | assumption | ((repeat (first | (apply rd_ne; · omega) | (apply rd_eq; · omega) | (apply rd_out; · omega) | (apply rd_in; · omega))); first | assumption | rfl)) ?_
    refine r_icmp_ge (tgt := 19) dX6_isPerson_12 (by decide) (fun h12 => ?_) (fun h12 => ?_)
    · refine r_iconst dX6_isPerson_19 (by decide) ?_
      refine r_zret dX6_isPerson_20 rfl (by omega) ?_
      first | exact ⟨by rw [bi_t (by first | assumption | omega)], rfl, rfl⟩ | exact ⟨by rw [bi_f (by first | assumption | omega)], rfl, rfl⟩
    · refine r_iconst dX6_isPerson_15 (by decide) ?_
      refine r_goto (tgt := 20) dX6_isPerson_16 (by decide) ?_
      refine r_zret dX6_isPerson_20 rfl (by omega) ?_
      first | exact ⟨by rw [bi_t (by first | assumption | omega)], rfl, rfl⟩ | exact ⟨by rw [bi_f (by first | assumption | omega)], rfl, rfl⟩
theorem s_isCrease {x y z : Int} {M : Me} {c : Int} : Con kX6_isCrease 0 0 0 [(1, 49), (0, c)] (Sf x y z) M (Ex (some (0, bi (0 ≤ c ∧ c < M 50 3))) (Sf x y z) M) := by
  refine Con.ofV (al := [(1, 49), (0, c)]) 0 (by decide) (Nat.le_of_ble_eq_true rfl) rfl ?_
  refine r_iload_n dX6_isCrease_0 rfl ?_
  refine r_if_lt (tgt := 19) dX6_isCrease_1 (by decide) (fun h1 => ?_) (fun h1 => ?_)
  · refine r_iconst dX6_isCrease_19 (by decide) ?_
    refine r_zret dX6_isCrease_20 rfl (by omega) ?_
    first | exact ⟨by rw [bi_t (by first | assumption | omega)], rfl, rfl⟩ | exact ⟨by rw [bi_f (by first | assumption | omega)], rfl, rfl⟩
  · refine r_iload_n dX6_isCrease_4 rfl ?_
    refine r_aload_n dX6_isCrease_5 rfl (by decide) ?_
    refine r_getr (x := 50) dX6_isCrease_6 flX6_21 sf49 (by decide) (by decide) rfl rfl ?_
    refine r_gi 3 dX6_isCrease_9 flX6_111 sf50 (by decide) (by decide) rfl rfl (by first | assumption | ((repeat (first | (apply rd_ne; · omega) | (apply rd_eq; · omega) | (apply rd_out; · omega) | (apply rd_in; · omega))); first | assumption | rfl)) ?_
    refine r_icmp_ge (tgt := 19) dX6_isCrease_12 (by decide) (fun h12 => ?_) (fun h12 => ?_)
    · refine r_iconst dX6_isCrease_19 (by decide) ?_
      refine r_zret dX6_isCrease_20 rfl (by omega) ?_
      first | exact ⟨by rw [bi_t (by first | assumption | omega)], rfl, rfl⟩ | exact ⟨by rw [bi_f (by first | assumption | omega)], rfl, rfl⟩
    · refine r_iconst dX6_isCrease_15 (by decide) ?_
      refine r_goto (tgt := 20) dX6_isCrease_16 (by decide) ?_
      refine r_zret dX6_isCrease_20 rfl (by omega) ?_
      first | exact ⟨by rw [bi_t (by first | assumption | omega)], rfl, rfl⟩ | exact ⟨by rw [bi_f (by first | assumption | omega)], rfl, rfl⟩
theorem s_isThere {x y z : Int} {M : Me} {c : Int} (h3 : 0 ≤ M 50 3 ∧ M 50 3 ≤ 12) : Con kX6_isThere 1 0 0 [(1, 49), (0, c)] (Sf x y z) M (Ex (some (0, bi ((0 ≤ c ∧ c < M 50 3) ∧ M 52 c = 0))) (Sf x y z) M) := by
  refine Con.ofV (al := [(1, 49), (0, c)]) 0 (by decide) (Nat.le_of_ble_eq_true rfl) rfl ?_
  refine r_aload_n dX6_isThere_0 rfl (by decide) ?_
  refine r_iload_n dX6_isThere_1 rfl ?_
  refine r_cv1 dX6_isThere_2 clX6_114 sf49 (by decide) (by decide) rfl (by first | decide | omega) (Nat.le_of_ble_eq_true rfl) (s_isCrease) ⟨Nat.zero_le _, Nat.zero_le _⟩ (fun _ => ?_)
  refine r_if_eq (tgt := 24) dX6_isThere_5 (by decide) (fun h5 => ?_) (fun h5 => ?_)
  · try have h5 := bi_0.mp h5
    refine r_iconst dX6_isThere_24 (by decide) ?_
    refine r_zret dX6_isThere_25 rfl (by omega) ?_
    first | exact ⟨by rw [bi_t (by first | assumption | omega)], rfl, rfl⟩ | exact ⟨by rw [bi_f (by first | assumption | omega)], rfl, rfl⟩
  · try have h5 := bi_1.mp h5
    refine r_aload_n dX6_isThere_8 rfl (by decide) ?_
    refine r_getr (x := 50) dX6_isThere_9 flX6_21 sf49 (by decide) (by decide) rfl rfl ?_
    refine r_getr (x := 52) dX6_isThere_12 flX6_118 sf50 (by decide) (by decide) rfl rfl ?_
    refine r_iload_n dX6_isThere_15 rfl ?_
    refine r_iald dX6_isThere_16 sf52 (by decide) (by omega) (by omega) (by decide) (by first | assumption | ((repeat (first | (apply rd_ne; · omega) | (apply rd_eq; · omega) | (apply rd_out; · omega) | (apply rd_in; · omega))); first | assumption | rfl)) ?_
    refine r_if_ne (tgt := 24) dX6_isThere_17 (by decide) (fun h17 => ?_) (fun h17 => ?_)
    · try have h17 := bi_1.mp h17
      refine r_iconst dX6_isThere_24 (by decide) ?_
      refine r_zret dX6_isThere_25 rfl (by omega) ?_
      first | exact ⟨by rw [bi_t (by first | assumption | omega)], rfl, rfl⟩ | exact ⟨by rw [bi_f (by first | assumption | omega)], rfl, rfl⟩
    · try have h17 := bi_0.mp h17
      refine r_iconst dX6_isThere_20 (by decide) ?_
      refine r_goto (tgt := 25) dX6_isThere_21 (by decide) ?_
      refine r_zret dX6_isThere_25 rfl (by omega) ?_
      first | exact ⟨by rw [bi_t (by first | assumption | omega)], rfl, rfl⟩ | exact ⟨by rw [bi_f (by first | assumption | omega)], rfl, rfl⟩
theorem s_tellPerson {x y z : Int} {M : Me} {s c : Int} (h2 : 0 ≤ M 50 2 ∧ M 50 2 ≤ 5) : Con kX6_tellPerson 0 0 0 [(1, 49), (0, s), (0, c)] (Sf x y z) M (fun v9 S9 M9 => S9 = (Sf x y z) ∧ ((0 ≤ s ∧ s ≤ 2 ∧ 0 ≤ c ∧ c ≤ 9999 ∧ M 50 2 < 5) ∧ v9 = some (0, M 50 2) ∧ M9 = up (up (up (up M 207 (M 50 2) (s)) 208 (M 50 2) (c)) 51 (M 50 2) (c)) 50 (2) (M 50 2 + 1) ∨ (¬ (0 ≤ s ∧ s ≤ 2 ∧ 0 ≤ c ∧ c ≤ 9999 ∧ M 50 2 < 5)) ∧ v9 = some (0, -1) ∧ M9 = M)) := by
  refine Con.ofV (al := [(1, 49), (0, s), (0, c), (9, 0)]) 1 (by decide) (Nat.le_of_ble_eq_true rfl) rfl ?_
  refine r_iload_n dX6_tellPerson_0 rfl ?_
  refine r_if_lt (tgt := 31) dX6_tellPerson_1 (by decide) (fun h1 => ?_) (fun h1 => ?_)
  · refine r_iconst dX6_tellPerson_31 (by decide) ?_
    refine r_iret dX6_tellPerson_32 rfl ?_
    first | exact ⟨rfl, Or.inl ⟨by omega, rfl, rfl⟩⟩ | exact ⟨rfl, Or.inr (⟨by omega, rfl, rfl⟩)⟩
  · refine r_iload_n dX6_tellPerson_4 rfl ?_
    refine r_iconst dX6_tellPerson_5 (by decide) ?_
    refine r_icmp_gt (tgt := 31) dX6_tellPerson_6 (by decide) (fun h6 => ?_) (fun h6 => ?_)
    · refine r_iconst dX6_tellPerson_31 (by decide) ?_
      refine r_iret dX6_tellPerson_32 rfl ?_
      first | exact ⟨rfl, Or.inl ⟨by omega, rfl, rfl⟩⟩ | exact ⟨rfl, Or.inr (⟨by omega, rfl, rfl⟩)⟩
    · refine r_iload_n dX6_tellPerson_9 rfl ?_
      refine r_if_lt (tgt := 31) dX6_tellPerson_10 (by decide) (fun h10 => ?_) (fun h10 => ?_)
      · refine r_iconst dX6_tellPerson_31 (by decide) ?_
        refine r_iret dX6_tellPerson_32 rfl ?_
        first | exact ⟨rfl, Or.inl ⟨by omega, rfl, rfl⟩⟩ | exact ⟨rfl, Or.inr (⟨by omega, rfl, rfl⟩)⟩
      · refine r_iload_n dX6_tellPerson_13 rfl ?_
        refine r_sipush dX6_tellPerson_14 (by decide) (by decide) ?_
        refine r_icmp_gt (tgt := 31) dX6_tellPerson_17 (by decide) (fun h17 => ?_) (fun h17 => ?_)
        · refine r_iconst dX6_tellPerson_31 (by decide) ?_
          refine r_iret dX6_tellPerson_32 rfl ?_
          first | exact ⟨rfl, Or.inl ⟨by omega, rfl, rfl⟩⟩ | exact ⟨rfl, Or.inr (⟨by omega, rfl, rfl⟩)⟩
        · refine r_aload_n dX6_tellPerson_20 rfl (by decide) ?_
          refine r_getr (x := 50) dX6_tellPerson_21 flX6_21 sf49 (by decide) (by decide) rfl rfl ?_
          refine r_gi 2 dX6_tellPerson_24 flX6_108 sf50 (by decide) (by decide) rfl rfl (by first | assumption | ((repeat (first | (apply rd_ne; · omega) | (apply rd_eq; · omega) | (apply rd_out; · omega) | (apply rd_in; · omega))); first | assumption | rfl)) ?_
          refine r_iconst dX6_tellPerson_27 (by decide) ?_
          refine r_icmp_lt (tgt := 33) dX6_tellPerson_28 (by decide) (fun h28 => ?_) (fun h28 => ?_)
          · refine r_aload_n dX6_tellPerson_33 rfl (by decide) ?_
            refine r_getr (x := 50) dX6_tellPerson_34 flX6_21 sf49 (by decide) (by decide) rfl rfl ?_
            refine r_gi 2 dX6_tellPerson_37 flX6_108 sf50 (by decide) (by decide) rfl rfl (by first | assumption | ((repeat (first | (apply rd_ne; · omega) | (apply rd_eq; · omega) | (apply rd_out; · omega) | (apply rd_in; · omega))); first | assumption | rfl)) ?_
            refine r_istore_n dX6_tellPerson_40 rfl (by decide) st3 ?_
            refine r_aload_n dX6_tellPerson_41 rfl (by decide) ?_
            refine r_getr (x := 207) dX6_tellPerson_42 flX6_32 sf49 (by decide) (by decide) rfl rfl ?_
            refine r_iload_n dX6_tellPerson_45 rfl ?_
            refine r_iload_n dX6_tellPerson_46 rfl ?_
            refine r_iast dX6_tellPerson_47 sf207 (by decide) (by omega) (by omega) (by decide) rfl ?_
            refine r_aload_n dX6_tellPerson_48 rfl (by decide) ?_
            refine r_getr (x := 208) dX6_tellPerson_49 flX6_36 sf49 (by decide) (by decide) rfl rfl ?_
            refine r_iload_n dX6_tellPerson_52 rfl ?_
            refine r_iload_n dX6_tellPerson_53 rfl ?_
            refine r_iast dX6_tellPerson_54 sf208 (by decide) (by omega) (by omega) (by decide) rfl ?_
            refine r_aload_n dX6_tellPerson_55 rfl (by decide) ?_
            refine r_getr (x := 50) dX6_tellPerson_56 flX6_21 sf49 (by decide) (by decide) rfl rfl ?_
            refine r_getr (x := 51) dX6_tellPerson_59 flX6_121 sf50 (by decide) (by decide) rfl rfl ?_
            refine r_iload_n dX6_tellPerson_62 rfl ?_
            refine r_iload_n dX6_tellPerson_63 rfl ?_
            refine r_iast dX6_tellPerson_64 sf51 (by decide) (by omega) (by omega) (by decide) rfl ?_
            refine r_aload_n dX6_tellPerson_65 rfl (by decide) ?_
            refine r_getr (x := 50) dX6_tellPerson_66 flX6_21 sf49 (by decide) (by decide) rfl rfl ?_
            refine r_dup dX6_tellPerson_69 (by decide) ?_
            refine r_gi 2 dX6_tellPerson_70 flX6_108 sf50 (by decide) (by decide) rfl rfl (by first | assumption | ((repeat (first | (apply rd_ne; · omega) | (apply rd_eq; · omega) | (apply rd_out; · omega) | (apply rd_in; · omega))); first | assumption | rfl)) ?_
            refine r_iconst dX6_tellPerson_73 (by decide) ?_
            refine r_iadd dX6_tellPerson_74 (w32_id (by omega)) ?_
            refine r_pi 2 dX6_tellPerson_75 fpX6_108 sf50 (by decide) (by decide) rfl rfl ?_
            refine r_iload_n dX6_tellPerson_78 rfl ?_
            refine r_iret dX6_tellPerson_79 rfl ?_
            first | exact ⟨rfl, Or.inl ⟨by omega, rfl, rfl⟩⟩ | exact ⟨rfl, Or.inr (⟨by omega, rfl, rfl⟩)⟩
          · refine r_iconst dX6_tellPerson_31 (by decide) ?_
            refine r_iret dX6_tellPerson_32 rfl ?_
            first | exact ⟨rfl, Or.inl ⟨by omega, rfl, rfl⟩⟩ | exact ⟨rfl, Or.inr (⟨by omega, rfl, rfl⟩)⟩
theorem s_setAsTold {x y z : Int} {M : Me} {c : Int} (hc : 0 ≤ c ∧ c < 12) : Con kX6_setAsTold 0 0 0 [(1, 49), (0, c)] (Sf x y z) M (Ex none (Sf x y z) (up (up M 52 (c) (0)) 53 (c) (M 211 c))) := by
  refine Con.ofV (al := [(1, 49), (0, c)]) 0 (by decide) (Nat.le_of_ble_eq_true rfl) rfl ?_
  refine r_aload_n dX6_setAsTold_0 rfl (by decide) ?_
  refine r_getr (x := 50) dX6_setAsTold_1 flX6_21 sf49 (by decide) (by decide) rfl rfl ?_
  refine r_getr (x := 52) dX6_setAsTold_4 flX6_118 sf50 (by decide) (by decide) rfl rfl ?_
  refine r_iload_n dX6_setAsTold_7 rfl ?_
  refine r_iconst dX6_setAsTold_8 (by decide) ?_
  refine r_iast dX6_setAsTold_9 sf52 (by decide) (by omega) (by omega) (by decide) rfl ?_
  refine r_aload_n dX6_setAsTold_10 rfl (by decide) ?_
  refine r_getr (x := 50) dX6_setAsTold_11 flX6_21 sf49 (by decide) (by decide) rfl rfl ?_
  refine r_getr (x := 53) dX6_setAsTold_14 flX6_130 sf50 (by decide) (by decide) rfl rfl ?_
  refine r_iload_n dX6_setAsTold_17 rfl ?_
  refine r_aload_n dX6_setAsTold_18 rfl (by decide) ?_
  refine r_getr (x := 211) dX6_setAsTold_19 flX6_45 sf49 (by decide) (by decide) rfl rfl ?_
  refine r_iload_n dX6_setAsTold_22 rfl ?_
  refine r_iald dX6_setAsTold_23 sf211 (by decide) (by omega) (by omega) (by decide) (by first | assumption | ((repeat (first | (apply rd_ne; · omega) | (apply rd_eq; · omega) | (apply rd_out; · omega) | (apply rd_in; · omega))); first | assumption | rfl)) ?_
  refine r_iast dX6_setAsTold_24 sf53 (by decide) (by omega) (by omega) (by decide) rfl ?_
  refine r_ret0 dX6_setAsTold_25 rfl ?_
  exact Ex.rf
theorem s_tellCrease {x y z : Int} {M : Me} {p y9 d w : Int} (h3 : 0 ≤ M 50 3 ∧ M 50 3 ≤ 12) : Con kX6_tellCrease 1 0 0 [(1, 49), (0, p), (0, y9), (0, d), (0, w)] (Sf x y z) M (fun v9 S9 M9 => S9 = (Sf x y z) ∧ (((0 ≤ p ∧ p < M 50 2) ∧ 0 ≤ y9 ∧ y9 ≤ 99 ∧ 1 ≤ d ∧ d ≤ 9 ∧ -9 ≤ w ∧ w ≤ 9 ∧ M 50 3 < 12) ∧ v9 = some (0, M 50 3) ∧ M9 = up (up (up (up (up (up (up (up (up M 209 (M 50 3) (p)) 210 (M 50 3) (y9)) 211 (M 50 3) (d)) 212 (M 50 3) (w)) 213 (M 50 3) (0)) 214 (M 50 3) (shl32 1 (M 50 3))) 52 (M 50 3) (0)) 53 (M 50 3) (d)) 50 (3) (M 50 3 + 1) ∨ (¬ ((0 ≤ p ∧ p < M 50 2) ∧ 0 ≤ y9 ∧ y9 ≤ 99 ∧ 1 ≤ d ∧ d ≤ 9 ∧ -9 ≤ w ∧ w ≤ 9 ∧ M 50 3 < 12)) ∧ v9 = some (0, -1) ∧ M9 = M)) := by
  refine Con.ofV (al := [(1, 49), (0, p), (0, y9), (0, d), (0, w), (9, 0)]) 1 (by decide) (Nat.le_of_ble_eq_true rfl) rfl ?_
  refine r_aload_n dX6_tellCrease_0 rfl (by decide) ?_
  refine r_iload_n dX6_tellCrease_1 rfl ?_
  refine r_cv1 dX6_tellCrease_2 clX6_124 sf49 (by decide) (by decide) rfl (by first | decide | omega) (Nat.le_of_ble_eq_true rfl) (s_isPerson) ⟨Nat.zero_le _, Nat.zero_le _⟩ (fun _ => ?_)
  refine r_if_eq (tgt := 55) dX6_tellCrease_5 (by decide) (fun h5 => ?_) (fun h5 => ?_)
  · try have h5 := bi_0.mp h5
    refine r_iconst dX6_tellCrease_55 (by decide) ?_
    refine r_iret dX6_tellCrease_56 rfl ?_
    first | (refine ⟨rfl, Or.inl ⟨by omega, rfl, ?_⟩⟩; simp (disch := omega) only [up_ne, up_eq]; done) | exact ⟨rfl, Or.inr ⟨by omega, rfl, rfl⟩⟩
  · try have h5 := bi_1.mp h5
    refine r_iload_n dX6_tellCrease_8 rfl ?_
    refine r_if_lt (tgt := 55) dX6_tellCrease_9 (by decide) (fun h9 => ?_) (fun h9 => ?_)
    · refine r_iconst dX6_tellCrease_55 (by decide) ?_
      refine r_iret dX6_tellCrease_56 rfl ?_
      first | (refine ⟨rfl, Or.inl ⟨by omega, rfl, ?_⟩⟩; simp (disch := omega) only [up_ne, up_eq]; done) | exact ⟨rfl, Or.inr ⟨by omega, rfl, rfl⟩⟩
    · refine r_iload_n dX6_tellCrease_12 rfl ?_
      refine r_bipush dX6_tellCrease_13 (by decide) (by decide) ?_
      refine r_icmp_gt (tgt := 55) dX6_tellCrease_15 (by decide) (fun h15 => ?_) (fun h15 => ?_)
      · refine r_iconst dX6_tellCrease_55 (by decide) ?_
        refine r_iret dX6_tellCrease_56 rfl ?_
        first | (refine ⟨rfl, Or.inl ⟨by omega, rfl, ?_⟩⟩; simp (disch := omega) only [up_ne, up_eq]; done) | exact ⟨rfl, Or.inr ⟨by omega, rfl, rfl⟩⟩
      · refine r_iload_n dX6_tellCrease_18 rfl ?_
        refine r_iconst dX6_tellCrease_19 (by decide) ?_
        refine r_icmp_lt (tgt := 55) dX6_tellCrease_20 (by decide) (fun h20 => ?_) (fun h20 => ?_)
        · refine r_iconst dX6_tellCrease_55 (by decide) ?_
          refine r_iret dX6_tellCrease_56 rfl ?_
          first | (refine ⟨rfl, Or.inl ⟨by omega, rfl, ?_⟩⟩; simp (disch := omega) only [up_ne, up_eq]; done) | exact ⟨rfl, Or.inr ⟨by omega, rfl, rfl⟩⟩
        · refine r_iload_n dX6_tellCrease_23 rfl ?_
          refine r_bipush dX6_tellCrease_24 (by decide) (by decide) ?_
          refine r_icmp_gt (tgt := 55) dX6_tellCrease_26 (by decide) (fun h26 => ?_) (fun h26 => ?_)
          · refine r_iconst dX6_tellCrease_55 (by decide) ?_
            refine r_iret dX6_tellCrease_56 rfl ?_
            first | (refine ⟨rfl, Or.inl ⟨by omega, rfl, ?_⟩⟩; simp (disch := omega) only [up_ne, up_eq]; done) | exact ⟨rfl, Or.inr ⟨by omega, rfl, rfl⟩⟩
          · refine r_iload dX6_tellCrease_29 rfl ?_
            refine r_bipush dX6_tellCrease_31 (by decide) (by decide) ?_
            refine r_icmp_lt (tgt := 55) dX6_tellCrease_33 (by decide) (fun h33 => ?_) (fun h33 => ?_)
            · refine r_iconst dX6_tellCrease_55 (by decide) ?_
              refine r_iret dX6_tellCrease_56 rfl ?_
              first | (refine ⟨rfl, Or.inl ⟨by omega, rfl, ?_⟩⟩; simp (disch := omega) only [up_ne, up_eq]; done) | exact ⟨rfl, Or.inr ⟨by omega, rfl, rfl⟩⟩
            · refine r_iload dX6_tellCrease_36 rfl ?_
              refine r_bipush dX6_tellCrease_38 (by decide) (by decide) ?_
              refine r_icmp_gt (tgt := 55) dX6_tellCrease_40 (by decide) (fun h40 => ?_) (fun h40 => ?_)
              · refine r_iconst dX6_tellCrease_55 (by decide) ?_
                refine r_iret dX6_tellCrease_56 rfl ?_
                first | (refine ⟨rfl, Or.inl ⟨by omega, rfl, ?_⟩⟩; simp (disch := omega) only [up_ne, up_eq]; done) | exact ⟨rfl, Or.inr ⟨by omega, rfl, rfl⟩⟩
              · refine r_aload_n dX6_tellCrease_43 rfl (by decide) ?_
                refine r_getr (x := 50) dX6_tellCrease_44 flX6_21 sf49 (by decide) (by decide) rfl rfl ?_
                refine r_gi 3 dX6_tellCrease_47 flX6_111 sf50 (by decide) (by decide) rfl rfl (by first | assumption | ((repeat (first | (apply rd_ne; · omega) | (apply rd_eq; · omega) | (apply rd_out; · omega) | (apply rd_in; · omega))); first | assumption | rfl)) ?_
                refine r_bipush dX6_tellCrease_50 (by decide) (by decide) ?_
                refine r_icmp_lt (tgt := 57) dX6_tellCrease_52 (by decide) (fun h52 => ?_) (fun h52 => ?_)
                · refine r_aload_n dX6_tellCrease_57 rfl (by decide) ?_
                  refine r_getr (x := 50) dX6_tellCrease_58 flX6_21 sf49 (by decide) (by decide) rfl rfl ?_
                  refine r_gi 3 dX6_tellCrease_61 flX6_111 sf50 (by decide) (by decide) rfl rfl (by first | assumption | ((repeat (first | (apply rd_ne; · omega) | (apply rd_eq; · omega) | (apply rd_out; · omega) | (apply rd_in; · omega))); first | assumption | rfl)) ?_
                  refine r_istore dX6_tellCrease_64 rfl (by decide) st5 ?_
                  refine r_aload_n dX6_tellCrease_66 rfl (by decide) ?_
                  refine r_getr (x := 209) dX6_tellCrease_67 flX6_39 sf49 (by decide) (by decide) rfl rfl ?_
                  refine r_iload dX6_tellCrease_70 rfl ?_
                  refine r_iload_n dX6_tellCrease_72 rfl ?_
                  refine r_iast dX6_tellCrease_73 sf209 (by decide) (by omega) (by omega) (by decide) rfl ?_
                  refine r_aload_n dX6_tellCrease_74 rfl (by decide) ?_
                  refine r_getr (x := 210) dX6_tellCrease_75 flX6_42 sf49 (by decide) (by decide) rfl rfl ?_
                  refine r_iload dX6_tellCrease_78 rfl ?_
                  refine r_iload_n dX6_tellCrease_80 rfl ?_
                  refine r_iast dX6_tellCrease_81 sf210 (by decide) (by omega) (by omega) (by decide) rfl ?_
                  refine r_aload_n dX6_tellCrease_82 rfl (by decide) ?_
                  refine r_getr (x := 211) dX6_tellCrease_83 flX6_45 sf49 (by decide) (by decide) rfl rfl ?_
                  refine r_iload dX6_tellCrease_86 rfl ?_
                  refine r_iload_n dX6_tellCrease_88 rfl ?_
                  refine r_iast dX6_tellCrease_89 sf211 (by decide) (by omega) (by omega) (by decide) rfl ?_
                  refine r_aload_n dX6_tellCrease_90 rfl (by decide) ?_
                  refine r_getr (x := 212) dX6_tellCrease_91 flX6_48 sf49 (by decide) (by decide) rfl rfl ?_
                  refine r_iload dX6_tellCrease_94 rfl ?_
                  refine r_iload dX6_tellCrease_96 rfl ?_
                  refine r_iast dX6_tellCrease_98 sf212 (by decide) (by omega) (by omega) (by decide) rfl ?_
                  refine r_aload_n dX6_tellCrease_99 rfl (by decide) ?_
                  refine r_getr (x := 213) dX6_tellCrease_100 flX6_51 sf49 (by decide) (by decide) rfl rfl ?_
                  refine r_iload dX6_tellCrease_103 rfl ?_
                  refine r_iconst dX6_tellCrease_105 (by decide) ?_
                  refine r_iast dX6_tellCrease_106 sf213 (by decide) (by omega) (by omega) (by decide) rfl ?_
                  refine r_aload_n dX6_tellCrease_107 rfl (by decide) ?_
                  refine r_getr (x := 214) dX6_tellCrease_108 flX6_54 sf49 (by decide) (by decide) rfl rfl ?_
                  refine r_iload dX6_tellCrease_111 rfl ?_
                  refine r_iconst dX6_tellCrease_113 (by decide) ?_
                  refine r_iload dX6_tellCrease_114 rfl ?_
                  refine r_ishl dX6_tellCrease_116 rfl ?_
                  refine r_iast dX6_tellCrease_117 sf214 (by decide) (by omega) (by omega) (by decide) rfl ?_
                  refine r_aload_n dX6_tellCrease_118 rfl (by decide) ?_
                  refine r_iload dX6_tellCrease_119 rfl ?_
                  refine r_cq1 dX6_tellCrease_121 clX6_127 sf49 (by decide) (by decide) rfl (by first | decide | omega) (Nat.le_of_ble_eq_true rfl) ((s_setAsTold (by omega))) ⟨Nat.zero_le _, Nat.zero_le _⟩ ?_
                  rintro _ _ _ ⟨rfl, rfl, rfl⟩ -
                  show V _ _ _ _ _ _ _ _ [] _ _ _ _
                  refine r_aload_n dX6_tellCrease_124 rfl (by decide) ?_
                  refine r_getr (x := 50) dX6_tellCrease_125 flX6_21 sf49 (by decide) (by decide) rfl rfl ?_
                  refine r_dup dX6_tellCrease_128 (by decide) ?_
                  refine r_gi 3 dX6_tellCrease_129 flX6_111 sf50 (by decide) (by decide) rfl rfl (by first | assumption | ((repeat (first | (apply rd_ne; · omega) | (apply rd_eq; · omega) | (apply rd_out; · omega) | (apply rd_in; · omega))); first | assumption | rfl)) ?_
                  refine r_iconst dX6_tellCrease_132 (by decide) ?_
                  refine r_iadd dX6_tellCrease_133 (w32_id (by omega)) ?_
                  refine r_pi 3 dX6_tellCrease_134 fpX6_111 sf50 (by decide) (by decide) rfl rfl ?_
                  refine r_iload dX6_tellCrease_137 rfl ?_
                  refine r_iret dX6_tellCrease_139 rfl ?_
                  first | (refine ⟨rfl, Or.inl ⟨by omega, rfl, ?_⟩⟩; simp (disch := omega) only [up_ne, up_eq]; done) | exact ⟨rfl, Or.inr ⟨by omega, rfl, rfl⟩⟩
                · refine r_iconst dX6_tellCrease_55 (by decide) ?_
                  refine r_iret dX6_tellCrease_56 rfl ?_
                  first | (refine ⟨rfl, Or.inl ⟨by omega, rfl, ?_⟩⟩; simp (disch := omega) only [up_ne, up_eq]; done) | exact ⟨rfl, Or.inr ⟨by omega, rfl, rfl⟩⟩
theorem s_tellHeat {x y z : Int} {M : Me} {h : Int} : Con kX6_tellHeat 0 0 0 [(1, 49), (0, h)] (Sf x y z) M (fun v9 S9 M9 => S9 = (Sf x y z) ∧ ((0 ≤ h ∧ h ≤ 9) ∧ v9 = some (0, 1) ∧ M9 = up M 49 (0) (h) ∨ (¬ (0 ≤ h ∧ h ≤ 9)) ∧ v9 = some (0, 0) ∧ M9 = M)) := by
  refine Con.ofV (al := [(1, 49), (0, h)]) 0 (by decide) (Nat.le_of_ble_eq_true rfl) rfl ?_
  refine r_iload_n dX6_tellHeat_0 rfl ?_
  refine r_if_lt (tgt := 10) dX6_tellHeat_1 (by decide) (fun h1 => ?_) (fun h1 => ?_)
  · refine r_iconst dX6_tellHeat_10 (by decide) ?_
    refine r_zret dX6_tellHeat_11 rfl (by omega) ?_
    first | exact ⟨rfl, Or.inl ⟨by omega, rfl, rfl⟩⟩ | exact ⟨rfl, Or.inr (⟨by omega, rfl, rfl⟩)⟩
  · refine r_iload_n dX6_tellHeat_4 rfl ?_
    refine r_bipush dX6_tellHeat_5 (by decide) (by decide) ?_
    refine r_icmp_le (tgt := 12) dX6_tellHeat_7 (by decide) (fun h7 => ?_) (fun h7 => ?_)
    · refine r_aload_n dX6_tellHeat_12 rfl (by decide) ?_
      refine r_iload_n dX6_tellHeat_13 rfl ?_
      refine r_pi 0 dX6_tellHeat_14 fpX6_9 sf49 (by decide) (by decide) rfl rfl ?_
      refine r_iconst dX6_tellHeat_17 (by decide) ?_
      refine r_zret dX6_tellHeat_18 rfl (by omega) ?_
      first | exact ⟨rfl, Or.inl ⟨by omega, rfl, rfl⟩⟩ | exact ⟨rfl, Or.inr (⟨by omega, rfl, rfl⟩)⟩
    · refine r_iconst dX6_tellHeat_10 (by decide) ?_
      refine r_zret dX6_tellHeat_11 rfl (by omega) ?_
      first | exact ⟨rfl, Or.inl ⟨by omega, rfl, rfl⟩⟩ | exact ⟨rfl, Or.inr (⟨by omega, rfl, rfl⟩)⟩
theorem t_empty_wanted {x y z : Int} {M : Me} : Con kX9_empty 0 0 0 [(1, 215)] (Sf x y z) M (Ex (some (0, 0)) (Sf x y z) (up M 215 (0) (0))) := by
  refine Con.ofV (al := [(1, 215)]) 0 (by decide) (Nat.le_of_ble_eq_true rfl) rfl ?_
  refine r_aload_n dX9_empty_0 rfl (by decide) ?_
  refine r_iconst dX9_empty_1 (by decide) ?_
  refine r_pi 0 dX9_empty_2 fpX9_21 sf215 (by decide) (by decide) rfl rfl ?_
  refine r_iconst dX9_empty_5 (by decide) ?_
  refine r_iret dX9_empty_6 rfl ?_
  exact Ex.rf
theorem t_add_wanted {x y z : Int} {M : Me} {u v w : Int} (hb : 0 ≤ M 215 0 ∧ M 215 0 ≤ 8) : Con kX9_add 0 0 0 [(1, 215), (0, u), (0, v), (0, w)] (Sf x y z) M (fun v9 S9 M9 => S9 = (Sf x y z) ∧ ((M 215 0 < 8) ∧ v9 = some (0, M 215 0 + 1) ∧ M9 = up (up (up (up M 216 (M 215 0) (u)) 217 (M 215 0) (v)) 218 (M 215 0) (w)) 215 (0) (M 215 0 + 1) ∨ (8 ≤ M 215 0) ∧ v9 = some (0, -2) ∧ M9 = M)) := by
  refine Con.ofV (al := [(1, 215), (0, u), (0, v), (0, w)]) 0 (by decide) (Nat.le_of_ble_eq_true rfl) rfl ?_
  refine r_aload_n dX9_add_0 rfl (by decide) ?_
  refine r_gi 0 dX9_add_1 flX9_21 sf215 (by decide) (by decide) rfl rfl (by first | assumption | ((repeat (first | (apply rd_ne; · omega) | (apply rd_eq; · omega) | (apply rd_out; · omega) | (apply rd_in; · omega))); first | assumption | rfl)) ?_
  refine r_aload_n dX9_add_4 rfl (by decide) ?_
  refine r_getr (x := 216) dX9_add_5 flX9_9 sf215 (by decide) (by decide) rfl rfl ?_
  refine r_alen dX9_add_8 sf216 (by decide) (by decide) (by decide) (by decide) rfl ?_
  refine r_icmp_lt (tgt := 15) dX9_add_9 (by decide) (fun h9 => ?_) (fun h9 => ?_)
  · refine r_aload_n dX9_add_15 rfl (by decide) ?_
    refine r_getr (x := 216) dX9_add_16 flX9_9 sf215 (by decide) (by decide) rfl rfl ?_
    refine r_aload_n dX9_add_19 rfl (by decide) ?_
    refine r_gi 0 dX9_add_20 flX9_21 sf215 (by decide) (by decide) rfl rfl (by first | assumption | ((repeat (first | (apply rd_ne; · omega) | (apply rd_eq; · omega) | (apply rd_out; · omega) | (apply rd_in; · omega))); first | assumption | rfl)) ?_
    refine r_iload_n dX9_add_23 rfl ?_
    refine r_iast dX9_add_24 sf216 (by decide) (by omega) (by omega) (by decide) rfl ?_
    refine r_aload_n dX9_add_25 rfl (by decide) ?_
    refine r_getr (x := 217) dX9_add_26 flX9_15 sf215 (by decide) (by decide) rfl rfl ?_
    refine r_aload_n dX9_add_29 rfl (by decide) ?_
    refine r_gi 0 dX9_add_30 flX9_21 sf215 (by decide) (by decide) rfl rfl (by first | assumption | ((repeat (first | (apply rd_ne; · omega) | (apply rd_eq; · omega) | (apply rd_out; · omega) | (apply rd_in; · omega))); first | assumption | rfl)) ?_
    refine r_iload_n dX9_add_33 rfl ?_
    refine r_iast dX9_add_34 sf217 (by decide) (by omega) (by omega) (by decide) rfl ?_
    refine r_aload_n dX9_add_35 rfl (by decide) ?_
    refine r_getr (x := 218) dX9_add_36 flX9_18 sf215 (by decide) (by decide) rfl rfl ?_
    refine r_aload_n dX9_add_39 rfl (by decide) ?_
    refine r_gi 0 dX9_add_40 flX9_21 sf215 (by decide) (by decide) rfl rfl (by first | assumption | ((repeat (first | (apply rd_ne; · omega) | (apply rd_eq; · omega) | (apply rd_out; · omega) | (apply rd_in; · omega))); first | assumption | rfl)) ?_
    refine r_iload_n dX9_add_43 rfl ?_
    refine r_iast dX9_add_44 sf218 (by decide) (by omega) (by omega) (by decide) rfl ?_
    refine r_aload_n dX9_add_45 rfl (by decide) ?_
    refine r_dup dX9_add_46 (by decide) ?_
    refine r_gi 0 dX9_add_47 flX9_21 sf215 (by decide) (by decide) rfl rfl (by first | assumption | ((repeat (first | (apply rd_ne; · omega) | (apply rd_eq; · omega) | (apply rd_out; · omega) | (apply rd_in; · omega))); first | assumption | rfl)) ?_
    refine r_iconst dX9_add_50 (by decide) ?_
    refine r_iadd dX9_add_51 (w32_id (by omega)) ?_
    refine r_pi 0 dX9_add_52 fpX9_21 sf215 (by decide) (by decide) rfl rfl ?_
    refine r_aload_n dX9_add_55 rfl (by decide) ?_
    refine r_gi 0 dX9_add_56 flX9_21 sf215 (by decide) (by decide) rfl rfl (by first | assumption | ((repeat (first | (apply rd_ne; · omega) | (apply rd_eq; · omega) | (apply rd_out; · omega) | (apply rd_in; · omega))); first | assumption | rfl)) ?_
    refine r_iret dX9_add_59 rfl ?_
    first | exact ⟨rfl, Or.inl ⟨by omega, rfl, rfl⟩⟩ | exact ⟨rfl, Or.inr (⟨by omega, rfl, rfl⟩)⟩
  · refine r_bipush dX9_add_12 (by decide) (by decide) ?_
    refine r_iret dX9_add_14 rfl ?_
    first | exact ⟨rfl, Or.inl ⟨by omega, rfl, rfl⟩⟩ | exact ⟨rfl, Or.inr (⟨by omega, rfl, rfl⟩)⟩
theorem t_empty_work {x y z : Int} {M : Me} : Con kX9_empty 0 0 0 [(1, 219)] (Sf x y z) M (Ex (some (0, 0)) (Sf x y z) (up M 219 (0) (0))) := by
  refine Con.ofV (al := [(1, 219)]) 0 (by decide) (Nat.le_of_ble_eq_true rfl) rfl ?_
  refine r_aload_n dX9_empty_0 rfl (by decide) ?_
  refine r_iconst dX9_empty_1 (by decide) ?_
  refine r_pi 0 dX9_empty_2 fpX9_21 sf219 (by decide) (by decide) rfl rfl ?_
  refine r_iconst dX9_empty_5 (by decide) ?_
  refine r_iret dX9_empty_6 rfl ?_
  exact Ex.rf
theorem t_add_work {x y z : Int} {M : Me} {u v w : Int} (hb : 0 ≤ M 219 0 ∧ M 219 0 ≤ 8) : Con kX9_add 0 0 0 [(1, 219), (0, u), (0, v), (0, w)] (Sf x y z) M (fun v9 S9 M9 => S9 = (Sf x y z) ∧ ((M 219 0 < 8) ∧ v9 = some (0, M 219 0 + 1) ∧ M9 = up (up (up (up M 220 (M 219 0) (u)) 221 (M 219 0) (v)) 222 (M 219 0) (w)) 219 (0) (M 219 0 + 1) ∨ (8 ≤ M 219 0) ∧ v9 = some (0, -2) ∧ M9 = M)) := by
  refine Con.ofV (al := [(1, 219), (0, u), (0, v), (0, w)]) 0 (by decide) (Nat.le_of_ble_eq_true rfl) rfl ?_
  refine r_aload_n dX9_add_0 rfl (by decide) ?_
  refine r_gi 0 dX9_add_1 flX9_21 sf219 (by decide) (by decide) rfl rfl (by first | assumption | ((repeat (first | (apply rd_ne; · omega) | (apply rd_eq; · omega) | (apply rd_out; · omega) | (apply rd_in; · omega))); first | assumption | rfl)) ?_
  refine r_aload_n dX9_add_4 rfl (by decide) ?_
  refine r_getr (x := 220) dX9_add_5 flX9_9 sf219 (by decide) (by decide) rfl rfl ?_
  refine r_alen dX9_add_8 sf220 (by decide) (by decide) (by decide) (by decide) rfl ?_
  refine r_icmp_lt (tgt := 15) dX9_add_9 (by decide) (fun h9 => ?_) (fun h9 => ?_)
  · refine r_aload_n dX9_add_15 rfl (by decide) ?_
    refine r_getr (x := 220) dX9_add_16 flX9_9 sf219 (by decide) (by decide) rfl rfl ?_
    refine r_aload_n dX9_add_19 rfl (by decide) ?_
    refine r_gi 0 dX9_add_20 flX9_21 sf219 (by decide) (by decide) rfl rfl (by first | assumption | ((repeat (first | (apply rd_ne; · omega) | (apply rd_eq; · omega) | (apply rd_out; · omega) | (apply rd_in; · omega))); first | assumption | rfl)) ?_
    refine r_iload_n dX9_add_23 rfl ?_
    refine r_iast dX9_add_24 sf220 (by decide) (by omega) (by omega) (by decide) rfl ?_
    refine r_aload_n dX9_add_25 rfl (by decide) ?_
    refine r_getr (x := 221) dX9_add_26 flX9_15 sf219 (by decide) (by decide) rfl rfl ?_
    refine r_aload_n dX9_add_29 rfl (by decide) ?_
    refine r_gi 0 dX9_add_30 flX9_21 sf219 (by decide) (by decide) rfl rfl (by first | assumption | ((repeat (first | (apply rd_ne; · omega) | (apply rd_eq; · omega) | (apply rd_out; · omega) | (apply rd_in; · omega))); first | assumption | rfl)) ?_
    refine r_iload_n dX9_add_33 rfl ?_
    refine r_iast dX9_add_34 sf221 (by decide) (by omega) (by omega) (by decide) rfl ?_
    refine r_aload_n dX9_add_35 rfl (by decide) ?_
    refine r_getr (x := 222) dX9_add_36 flX9_18 sf219 (by decide) (by decide) rfl rfl ?_
    refine r_aload_n dX9_add_39 rfl (by decide) ?_
    refine r_gi 0 dX9_add_40 flX9_21 sf219 (by decide) (by decide) rfl rfl (by first | assumption | ((repeat (first | (apply rd_ne; · omega) | (apply rd_eq; · omega) | (apply rd_out; · omega) | (apply rd_in; · omega))); first | assumption | rfl)) ?_
    refine r_iload_n dX9_add_43 rfl ?_
    refine r_iast dX9_add_44 sf222 (by decide) (by omega) (by omega) (by decide) rfl ?_
    refine r_aload_n dX9_add_45 rfl (by decide) ?_
    refine r_dup dX9_add_46 (by decide) ?_
    refine r_gi 0 dX9_add_47 flX9_21 sf219 (by decide) (by decide) rfl rfl (by first | assumption | ((repeat (first | (apply rd_ne; · omega) | (apply rd_eq; · omega) | (apply rd_out; · omega) | (apply rd_in; · omega))); first | assumption | rfl)) ?_
    refine r_iconst dX9_add_50 (by decide) ?_
    refine r_iadd dX9_add_51 (w32_id (by omega)) ?_
    refine r_pi 0 dX9_add_52 fpX9_21 sf219 (by decide) (by decide) rfl rfl ?_
    refine r_aload_n dX9_add_55 rfl (by decide) ?_
    refine r_gi 0 dX9_add_56 flX9_21 sf219 (by decide) (by decide) rfl rfl (by first | assumption | ((repeat (first | (apply rd_ne; · omega) | (apply rd_eq; · omega) | (apply rd_out; · omega) | (apply rd_in; · omega))); first | assumption | rfl)) ?_
    refine r_iret dX9_add_59 rfl ?_
    first | exact ⟨rfl, Or.inl ⟨by omega, rfl, rfl⟩⟩ | exact ⟨rfl, Or.inr (⟨by omega, rfl, rfl⟩)⟩
  · refine r_bipush dX9_add_12 (by decide) (by decide) ?_
    refine r_iret dX9_add_14 rfl ?_
    first | exact ⟨rfl, Or.inl ⟨by omega, rfl, rfl⟩⟩ | exact ⟨rfl, Or.inr (⟨by omega, rfl, rfl⟩)⟩
theorem t_empty_seams {x y z : Int} {M : Me} : Con kX9_empty 0 0 0 [(1, 223)] (Sf x y z) M (Ex (some (0, 0)) (Sf x y z) (up M 223 (0) (0))) := by
  refine Con.ofV (al := [(1, 223)]) 0 (by decide) (Nat.le_of_ble_eq_true rfl) rfl ?_
  refine r_aload_n dX9_empty_0 rfl (by decide) ?_
  refine r_iconst dX9_empty_1 (by decide) ?_
  refine r_pi 0 dX9_empty_2 fpX9_21 sf223 (by decide) (by decide) rfl rfl ?_
  refine r_iconst dX9_empty_5 (by decide) ?_
  refine r_iret dX9_empty_6 rfl ?_
  exact Ex.rf
theorem t_add_seams {x y z : Int} {M : Me} {u v w : Int} (hb : 0 ≤ M 223 0 ∧ M 223 0 ≤ 8) : Con kX9_add 0 0 0 [(1, 223), (0, u), (0, v), (0, w)] (Sf x y z) M (fun v9 S9 M9 => S9 = (Sf x y z) ∧ ((M 223 0 < 8) ∧ v9 = some (0, M 223 0 + 1) ∧ M9 = up (up (up (up M 224 (M 223 0) (u)) 225 (M 223 0) (v)) 226 (M 223 0) (w)) 223 (0) (M 223 0 + 1) ∨ (8 ≤ M 223 0) ∧ v9 = some (0, -2) ∧ M9 = M)) := by
  refine Con.ofV (al := [(1, 223), (0, u), (0, v), (0, w)]) 0 (by decide) (Nat.le_of_ble_eq_true rfl) rfl ?_
  refine r_aload_n dX9_add_0 rfl (by decide) ?_
  refine r_gi 0 dX9_add_1 flX9_21 sf223 (by decide) (by decide) rfl rfl (by first | assumption | ((repeat (first | (apply rd_ne; · omega) | (apply rd_eq; · omega) | (apply rd_out; · omega) | (apply rd_in; · omega))); first | assumption | rfl)) ?_
  refine r_aload_n dX9_add_4 rfl (by decide) ?_
  refine r_getr (x := 224) dX9_add_5 flX9_9 sf223 (by decide) (by decide) rfl rfl ?_
  refine r_alen dX9_add_8 sf224 (by decide) (by decide) (by decide) (by decide) rfl ?_
  refine r_icmp_lt (tgt := 15) dX9_add_9 (by decide) (fun h9 => ?_) (fun h9 => ?_)
  · refine r_aload_n dX9_add_15 rfl (by decide) ?_
    refine r_getr (x := 224) dX9_add_16 flX9_9 sf223 (by decide) (by decide) rfl rfl ?_
    refine r_aload_n dX9_add_19 rfl (by decide) ?_
    refine r_gi 0 dX9_add_20 flX9_21 sf223 (by decide) (by decide) rfl rfl (by first | assumption | ((repeat (first | (apply rd_ne; · omega) | (apply rd_eq; · omega) | (apply rd_out; · omega) | (apply rd_in; · omega))); first | assumption | rfl)) ?_
    refine r_iload_n dX9_add_23 rfl ?_
    refine r_iast dX9_add_24 sf224 (by decide) (by omega) (by omega) (by decide) rfl ?_
    refine r_aload_n dX9_add_25 rfl (by decide) ?_
    refine r_getr (x := 225) dX9_add_26 flX9_15 sf223 (by decide) (by decide) rfl rfl ?_
    refine r_aload_n dX9_add_29 rfl (by decide) ?_
    refine r_gi 0 dX9_add_30 flX9_21 sf223 (by decide) (by decide) rfl rfl (by first | assumption | ((repeat (first | (apply rd_ne; · omega) | (apply rd_eq; · omega) | (apply rd_out; · omega) | (apply rd_in; · omega))); first | assumption | rfl)) ?_
    refine r_iload_n dX9_add_33 rfl ?_
    refine r_iast dX9_add_34 sf225 (by decide) (by omega) (by omega) (by decide) rfl ?_
    refine r_aload_n dX9_add_35 rfl (by decide) ?_
    refine r_getr (x := 226) dX9_add_36 flX9_18 sf223 (by decide) (by decide) rfl rfl ?_
    refine r_aload_n dX9_add_39 rfl (by decide) ?_
    refine r_gi 0 dX9_add_40 flX9_21 sf223 (by decide) (by decide) rfl rfl (by first | assumption | ((repeat (first | (apply rd_ne; · omega) | (apply rd_eq; · omega) | (apply rd_out; · omega) | (apply rd_in; · omega))); first | assumption | rfl)) ?_
    refine r_iload_n dX9_add_43 rfl ?_
    refine r_iast dX9_add_44 sf226 (by decide) (by omega) (by omega) (by decide) rfl ?_
    refine r_aload_n dX9_add_45 rfl (by decide) ?_
    refine r_dup dX9_add_46 (by decide) ?_
    refine r_gi 0 dX9_add_47 flX9_21 sf223 (by decide) (by decide) rfl rfl (by first | assumption | ((repeat (first | (apply rd_ne; · omega) | (apply rd_eq; · omega) | (apply rd_out; · omega) | (apply rd_in; · omega))); first | assumption | rfl)) ?_
    refine r_iconst dX9_add_50 (by decide) ?_
    refine r_iadd dX9_add_51 (w32_id (by omega)) ?_
    refine r_pi 0 dX9_add_52 fpX9_21 sf223 (by decide) (by decide) rfl rfl ?_
    refine r_aload_n dX9_add_55 rfl (by decide) ?_
    refine r_gi 0 dX9_add_56 flX9_21 sf223 (by decide) (by decide) rfl rfl (by first | assumption | ((repeat (first | (apply rd_ne; · omega) | (apply rd_eq; · omega) | (apply rd_out; · omega) | (apply rd_in; · omega))); first | assumption | rfl)) ?_
    refine r_iret dX9_add_59 rfl ?_
    first | exact ⟨rfl, Or.inl ⟨by omega, rfl, rfl⟩⟩ | exact ⟨rfl, Or.inr (⟨by omega, rfl, rfl⟩)⟩
  · refine r_bipush dX9_add_12 (by decide) (by decide) ?_
    refine r_iret dX9_add_14 rfl ?_
    first | exact ⟨rfl, Or.inl ⟨by omega, rfl, rfl⟩⟩ | exact ⟨rfl, Or.inr (⟨by omega, rfl, rfl⟩)⟩
theorem t_empty_nephews {x y z : Int} {M : Me} : Con kX9_empty 0 0 0 [(1, 227)] (Sf x y z) M (Ex (some (0, 0)) (Sf x y z) (up M 227 (0) (0))) := by
  refine Con.ofV (al := [(1, 227)]) 0 (by decide) (Nat.le_of_ble_eq_true rfl) rfl ?_
  refine r_aload_n dX9_empty_0 rfl (by decide) ?_
  refine r_iconst dX9_empty_1 (by decide) ?_
  refine r_pi 0 dX9_empty_2 fpX9_21 sf227 (by decide) (by decide) rfl rfl ?_
  refine r_iconst dX9_empty_5 (by decide) ?_
  refine r_iret dX9_empty_6 rfl ?_
  exact Ex.rf
theorem t_add_nephews {x y z : Int} {M : Me} {u v w : Int} (hb : 0 ≤ M 227 0 ∧ M 227 0 ≤ 6) : Con kX9_add 0 0 0 [(1, 227), (0, u), (0, v), (0, w)] (Sf x y z) M (fun v9 S9 M9 => S9 = (Sf x y z) ∧ ((M 227 0 < 6) ∧ v9 = some (0, M 227 0 + 1) ∧ M9 = up (up (up (up M 228 (M 227 0) (u)) 229 (M 227 0) (v)) 230 (M 227 0) (w)) 227 (0) (M 227 0 + 1) ∨ (6 ≤ M 227 0) ∧ v9 = some (0, -2) ∧ M9 = M)) := by
  refine Con.ofV (al := [(1, 227), (0, u), (0, v), (0, w)]) 0 (by decide) (Nat.le_of_ble_eq_true rfl) rfl ?_
  refine r_aload_n dX9_add_0 rfl (by decide) ?_
  refine r_gi 0 dX9_add_1 flX9_21 sf227 (by decide) (by decide) rfl rfl (by first | assumption | ((repeat (first | (apply rd_ne; · omega) | (apply rd_eq; · omega) | (apply rd_out; · omega) | (apply rd_in; · omega))); first | assumption | rfl)) ?_
  refine r_aload_n dX9_add_4 rfl (by decide) ?_
  refine r_getr (x := 228) dX9_add_5 flX9_9 sf227 (by decide) (by decide) rfl rfl ?_
  refine r_alen dX9_add_8 sf228 (by decide) (by decide) (by decide) (by decide) rfl ?_
  refine r_icmp_lt (tgt := 15) dX9_add_9 (by decide) (fun h9 => ?_) (fun h9 => ?_)
  · refine r_aload_n dX9_add_15 rfl (by decide) ?_
    refine r_getr (x := 228) dX9_add_16 flX9_9 sf227 (by decide) (by decide) rfl rfl ?_
    refine r_aload_n dX9_add_19 rfl (by decide) ?_
    refine r_gi 0 dX9_add_20 flX9_21 sf227 (by decide) (by decide) rfl rfl (by first | assumption | ((repeat (first | (apply rd_ne; · omega) | (apply rd_eq; · omega) | (apply rd_out; · omega) | (apply rd_in; · omega))); first | assumption | rfl)) ?_
    refine r_iload_n dX9_add_23 rfl ?_
    refine r_iast dX9_add_24 sf228 (by decide) (by omega) (by omega) (by decide) rfl ?_
    refine r_aload_n dX9_add_25 rfl (by decide) ?_
    refine r_getr (x := 229) dX9_add_26 flX9_15 sf227 (by decide) (by decide) rfl rfl ?_
    refine r_aload_n dX9_add_29 rfl (by decide) ?_
    refine r_gi 0 dX9_add_30 flX9_21 sf227 (by decide) (by decide) rfl rfl (by first | assumption | ((repeat (first | (apply rd_ne; · omega) | (apply rd_eq; · omega) | (apply rd_out; · omega) | (apply rd_in; · omega))); first | assumption | rfl)) ?_
    refine r_iload_n dX9_add_33 rfl ?_
    refine r_iast dX9_add_34 sf229 (by decide) (by omega) (by omega) (by decide) rfl ?_
    refine r_aload_n dX9_add_35 rfl (by decide) ?_
    refine r_getr (x := 230) dX9_add_36 flX9_18 sf227 (by decide) (by decide) rfl rfl ?_
    refine r_aload_n dX9_add_39 rfl (by decide) ?_
    refine r_gi 0 dX9_add_40 flX9_21 sf227 (by decide) (by decide) rfl rfl (by first | assumption | ((repeat (first | (apply rd_ne; · omega) | (apply rd_eq; · omega) | (apply rd_out; · omega) | (apply rd_in; · omega))); first | assumption | rfl)) ?_
    refine r_iload_n dX9_add_43 rfl ?_
    refine r_iast dX9_add_44 sf230 (by decide) (by omega) (by omega) (by decide) rfl ?_
    refine r_aload_n dX9_add_45 rfl (by decide) ?_
    refine r_dup dX9_add_46 (by decide) ?_
    refine r_gi 0 dX9_add_47 flX9_21 sf227 (by decide) (by decide) rfl rfl (by first | assumption | ((repeat (first | (apply rd_ne; · omega) | (apply rd_eq; · omega) | (apply rd_out; · omega) | (apply rd_in; · omega))); first | assumption | rfl)) ?_
    refine r_iconst dX9_add_50 (by decide) ?_
    refine r_iadd dX9_add_51 (w32_id (by omega)) ?_
    refine r_pi 0 dX9_add_52 fpX9_21 sf227 (by decide) (by decide) rfl rfl ?_
    refine r_aload_n dX9_add_55 rfl (by decide) ?_
    refine r_gi 0 dX9_add_56 flX9_21 sf227 (by decide) (by decide) rfl rfl (by first | assumption | ((repeat (first | (apply rd_ne; · omega) | (apply rd_eq; · omega) | (apply rd_out; · omega) | (apply rd_in; · omega))); first | assumption | rfl)) ?_
    refine r_iret dX9_add_59 rfl ?_
    first | exact ⟨rfl, Or.inl ⟨by omega, rfl, rfl⟩⟩ | exact ⟨rfl, Or.inr (⟨by omega, rfl, rfl⟩)⟩
  · refine r_bipush dX9_add_12 (by decide) (by decide) ?_
    refine r_iret dX9_add_14 rfl ?_
    first | exact ⟨rfl, Or.inl ⟨by omega, rfl, rfl⟩⟩ | exact ⟨rfl, Or.inr (⟨by omega, rfl, rfl⟩)⟩
theorem t_empty_offers {x y z : Int} {M : Me} : Con kX9_empty 0 0 0 [(1, 231)] (Sf x y z) M (Ex (some (0, 0)) (Sf x y z) (up M 231 (0) (0))) := by
  refine Con.ofV (al := [(1, 231)]) 0 (by decide) (Nat.le_of_ble_eq_true rfl) rfl ?_
  refine r_aload_n dX9_empty_0 rfl (by decide) ?_
  refine r_iconst dX9_empty_1 (by decide) ?_
  refine r_pi 0 dX9_empty_2 fpX9_21 sf231 (by decide) (by decide) rfl rfl ?_
  refine r_iconst dX9_empty_5 (by decide) ?_
  refine r_iret dX9_empty_6 rfl ?_
  exact Ex.rf
theorem t_add_offers {x y z : Int} {M : Me} {u v w : Int} (hb : 0 ≤ M 231 0 ∧ M 231 0 ≤ 8) : Con kX9_add 0 0 0 [(1, 231), (0, u), (0, v), (0, w)] (Sf x y z) M (fun v9 S9 M9 => S9 = (Sf x y z) ∧ ((M 231 0 < 8) ∧ v9 = some (0, M 231 0 + 1) ∧ M9 = up (up (up (up M 232 (M 231 0) (u)) 233 (M 231 0) (v)) 234 (M 231 0) (w)) 231 (0) (M 231 0 + 1) ∨ (8 ≤ M 231 0) ∧ v9 = some (0, -2) ∧ M9 = M)) := by
  refine Con.ofV (al := [(1, 231), (0, u), (0, v), (0, w)]) 0 (by decide) (Nat.le_of_ble_eq_true rfl) rfl ?_
  refine r_aload_n dX9_add_0 rfl (by decide) ?_
  refine r_gi 0 dX9_add_1 flX9_21 sf231 (by decide) (by decide) rfl rfl (by first | assumption | ((repeat (first | (apply rd_ne; · omega) | (apply rd_eq; · omega) | (apply rd_out; · omega) | (apply rd_in; · omega))); first | assumption | rfl)) ?_
  refine r_aload_n dX9_add_4 rfl (by decide) ?_
  refine r_getr (x := 232) dX9_add_5 flX9_9 sf231 (by decide) (by decide) rfl rfl ?_
  refine r_alen dX9_add_8 sf232 (by decide) (by decide) (by decide) (by decide) rfl ?_
  refine r_icmp_lt (tgt := 15) dX9_add_9 (by decide) (fun h9 => ?_) (fun h9 => ?_)
  · refine r_aload_n dX9_add_15 rfl (by decide) ?_
    refine r_getr (x := 232) dX9_add_16 flX9_9 sf231 (by decide) (by decide) rfl rfl ?_
    refine r_aload_n dX9_add_19 rfl (by decide) ?_
    refine r_gi 0 dX9_add_20 flX9_21 sf231 (by decide) (by decide) rfl rfl (by first | assumption | ((repeat (first | (apply rd_ne; · omega) | (apply rd_eq; · omega) | (apply rd_out; · omega) | (apply rd_in; · omega))); first | assumption | rfl)) ?_
    refine r_iload_n dX9_add_23 rfl ?_
    refine r_iast dX9_add_24 sf232 (by decide) (by omega) (by omega) (by decide) rfl ?_
    refine r_aload_n dX9_add_25 rfl (by decide) ?_
    refine r_getr (x := 233) dX9_add_26 flX9_15 sf231 (by decide) (by decide) rfl rfl ?_
    refine r_aload_n dX9_add_29 rfl (by decide) ?_
    refine r_gi 0 dX9_add_30 flX9_21 sf231 (by decide) (by decide) rfl rfl (by first | assumption | ((repeat (first | (apply rd_ne; · omega) | (apply rd_eq; · omega) | (apply rd_out; · omega) | (apply rd_in; · omega))); first | assumption | rfl)) ?_
    refine r_iload_n dX9_add_33 rfl ?_
    refine r_iast dX9_add_34 sf233 (by decide) (by omega) (by omega) (by decide) rfl ?_
    refine r_aload_n dX9_add_35 rfl (by decide) ?_
    refine r_getr (x := 234) dX9_add_36 flX9_18 sf231 (by decide) (by decide) rfl rfl ?_
    refine r_aload_n dX9_add_39 rfl (by decide) ?_
    refine r_gi 0 dX9_add_40 flX9_21 sf231 (by decide) (by decide) rfl rfl (by first | assumption | ((repeat (first | (apply rd_ne; · omega) | (apply rd_eq; · omega) | (apply rd_out; · omega) | (apply rd_in; · omega))); first | assumption | rfl)) ?_
    refine r_iload_n dX9_add_43 rfl ?_
    refine r_iast dX9_add_44 sf234 (by decide) (by omega) (by omega) (by decide) rfl ?_
    refine r_aload_n dX9_add_45 rfl (by decide) ?_
    refine r_dup dX9_add_46 (by decide) ?_
    refine r_gi 0 dX9_add_47 flX9_21 sf231 (by decide) (by decide) rfl rfl (by first | assumption | ((repeat (first | (apply rd_ne; · omega) | (apply rd_eq; · omega) | (apply rd_out; · omega) | (apply rd_in; · omega))); first | assumption | rfl)) ?_
    refine r_iconst dX9_add_50 (by decide) ?_
    refine r_iadd dX9_add_51 (w32_id (by omega)) ?_
    refine r_pi 0 dX9_add_52 fpX9_21 sf231 (by decide) (by decide) rfl rfl ?_
    refine r_aload_n dX9_add_55 rfl (by decide) ?_
    refine r_gi 0 dX9_add_56 flX9_21 sf231 (by decide) (by decide) rfl rfl (by first | assumption | ((repeat (first | (apply rd_ne; · omega) | (apply rd_eq; · omega) | (apply rd_out; · omega) | (apply rd_in; · omega))); first | assumption | rfl)) ?_
    refine r_iret dX9_add_59 rfl ?_
    first | exact ⟨rfl, Or.inl ⟨by omega, rfl, rfl⟩⟩ | exact ⟨rfl, Or.inr (⟨by omega, rfl, rfl⟩)⟩
  · refine r_bipush dX9_add_12 (by decide) (by decide) ?_
    refine r_iret dX9_add_14 rfl ?_
    first | exact ⟨rfl, Or.inl ⟨by omega, rfl, rfl⟩⟩ | exact ⟨rfl, Or.inr (⟨by omega, rfl, rfl⟩)⟩
theorem t_empty_paid {x y z : Int} {M : Me} : Con kX9_empty 0 0 0 [(1, 235)] (Sf x y z) M (Ex (some (0, 0)) (Sf x y z) (up M 235 (0) (0))) := by
  refine Con.ofV (al := [(1, 235)]) 0 (by decide) (Nat.le_of_ble_eq_true rfl) rfl ?_
  refine r_aload_n dX9_empty_0 rfl (by decide) ?_
  refine r_iconst dX9_empty_1 (by decide) ?_
  refine r_pi 0 dX9_empty_2 fpX9_21 sf235 (by decide) (by decide) rfl rfl ?_
  refine r_iconst dX9_empty_5 (by decide) ?_
  refine r_iret dX9_empty_6 rfl ?_
  exact Ex.rf
theorem t_add_paid {x y z : Int} {M : Me} {u v w : Int} (hb : 0 ≤ M 235 0 ∧ M 235 0 ≤ 8) : Con kX9_add 0 0 0 [(1, 235), (0, u), (0, v), (0, w)] (Sf x y z) M (fun v9 S9 M9 => S9 = (Sf x y z) ∧ ((M 235 0 < 8) ∧ v9 = some (0, M 235 0 + 1) ∧ M9 = up (up (up (up M 236 (M 235 0) (u)) 237 (M 235 0) (v)) 238 (M 235 0) (w)) 235 (0) (M 235 0 + 1) ∨ (8 ≤ M 235 0) ∧ v9 = some (0, -2) ∧ M9 = M)) := by
  refine Con.ofV (al := [(1, 235), (0, u), (0, v), (0, w)]) 0 (by decide) (Nat.le_of_ble_eq_true rfl) rfl ?_
  refine r_aload_n dX9_add_0 rfl (by decide) ?_
  refine r_gi 0 dX9_add_1 flX9_21 sf235 (by decide) (by decide) rfl rfl (by first | assumption | ((repeat (first | (apply rd_ne; · omega) | (apply rd_eq; · omega) | (apply rd_out; · omega) | (apply rd_in; · omega))); first | assumption | rfl)) ?_
  refine r_aload_n dX9_add_4 rfl (by decide) ?_
  refine r_getr (x := 236) dX9_add_5 flX9_9 sf235 (by decide) (by decide) rfl rfl ?_
  refine r_alen dX9_add_8 sf236 (by decide) (by decide) (by decide) (by decide) rfl ?_
  refine r_icmp_lt (tgt := 15) dX9_add_9 (by decide) (fun h9 => ?_) (fun h9 => ?_)
  · refine r_aload_n dX9_add_15 rfl (by decide) ?_
    refine r_getr (x := 236) dX9_add_16 flX9_9 sf235 (by decide) (by decide) rfl rfl ?_
    refine r_aload_n dX9_add_19 rfl (by decide) ?_
    refine r_gi 0 dX9_add_20 flX9_21 sf235 (by decide) (by decide) rfl rfl (by first | assumption | ((repeat (first | (apply rd_ne; · omega) | (apply rd_eq; · omega) | (apply rd_out; · omega) | (apply rd_in; · omega))); first | assumption | rfl)) ?_
    refine r_iload_n dX9_add_23 rfl ?_
    refine r_iast dX9_add_24 sf236 (by decide) (by omega) (by omega) (by decide) rfl ?_
    refine r_aload_n dX9_add_25 rfl (by decide) ?_
    refine r_getr (x := 237) dX9_add_26 flX9_15 sf235 (by decide) (by decide) rfl rfl ?_
    refine r_aload_n dX9_add_29 rfl (by decide) ?_
    refine r_gi 0 dX9_add_30 flX9_21 sf235 (by decide) (by decide) rfl rfl (by first | assumption | ((repeat (first | (apply rd_ne; · omega) | (apply rd_eq; · omega) | (apply rd_out; · omega) | (apply rd_in; · omega))); first | assumption | rfl)) ?_
    refine r_iload_n dX9_add_33 rfl ?_
    refine r_iast dX9_add_34 sf237 (by decide) (by omega) (by omega) (by decide) rfl ?_
    refine r_aload_n dX9_add_35 rfl (by decide) ?_
    refine r_getr (x := 238) dX9_add_36 flX9_18 sf235 (by decide) (by decide) rfl rfl ?_
    refine r_aload_n dX9_add_39 rfl (by decide) ?_
    refine r_gi 0 dX9_add_40 flX9_21 sf235 (by decide) (by decide) rfl rfl (by first | assumption | ((repeat (first | (apply rd_ne; · omega) | (apply rd_eq; · omega) | (apply rd_out; · omega) | (apply rd_in; · omega))); first | assumption | rfl)) ?_
    refine r_iload_n dX9_add_43 rfl ?_
    refine r_iast dX9_add_44 sf238 (by decide) (by omega) (by omega) (by decide) rfl ?_
    refine r_aload_n dX9_add_45 rfl (by decide) ?_
    refine r_dup dX9_add_46 (by decide) ?_
    refine r_gi 0 dX9_add_47 flX9_21 sf235 (by decide) (by decide) rfl rfl (by first | assumption | ((repeat (first | (apply rd_ne; · omega) | (apply rd_eq; · omega) | (apply rd_out; · omega) | (apply rd_in; · omega))); first | assumption | rfl)) ?_
    refine r_iconst dX9_add_50 (by decide) ?_
    refine r_iadd dX9_add_51 (w32_id (by omega)) ?_
    refine r_pi 0 dX9_add_52 fpX9_21 sf235 (by decide) (by decide) rfl rfl ?_
    refine r_aload_n dX9_add_55 rfl (by decide) ?_
    refine r_gi 0 dX9_add_56 flX9_21 sf235 (by decide) (by decide) rfl rfl (by first | assumption | ((repeat (first | (apply rd_ne; · omega) | (apply rd_eq; · omega) | (apply rd_out; · omega) | (apply rd_in; · omega))); first | assumption | rfl)) ?_
    refine r_iret dX9_add_59 rfl ?_
    first | exact ⟨rfl, Or.inl ⟨by omega, rfl, rfl⟩⟩ | exact ⟨rfl, Or.inr (⟨by omega, rfl, rfl⟩)⟩
  · refine r_bipush dX9_add_12 (by decide) (by decide) ?_
    refine r_iret dX9_add_14 rfl ?_
    first | exact ⟨rfl, Or.inl ⟨by omega, rfl, rfl⟩⟩ | exact ⟨rfl, Or.inr (⟨by omega, rfl, rfl⟩)⟩
theorem l_allThere {x y z : Int} {M : Me} {n : Nat} (hn : M 50 3 = (n : Int)) (hn12 : n ≤ 12) : ∀ (m i : Nat), m + i = n → V kX6_allThere 0 0 0 none (Ex (some (0, bset (fun c : Int => M 52 c = 0) (fun c => c) n)) (Sf x y z) M) 4 [(1, 49), (0, bset (fun c : Int => M 52 c = 0) (fun c => c) i), (0, (i : Int))] [] (Sf x y z) M 0 0 := by
  intro m
  induction m with
  | zero =>
    intro i hi
    obtain rfl : i = n := by omega
    refine r_iload_n dX6_allThere_4 rfl ?_
    refine r_aload_n dX6_allThere_5 rfl (by decide) ?_
    refine r_getr (x := 50) dX6_allThere_6 flX6_21 sf49 (by decide) (by decide) rfl rfl ?_
    refine r_gi 3 dX6_allThere_9 flX6_111 sf50 (by decide) (by decide) rfl rfl hn ?_
    refine r_icmp_ge (tgt := 43) dX6_allThere_12 (by decide) (fun h12 => ?_) (fun h12 => by exfalso; omega)
    refine r_iload_n dX6_allThere_43 rfl ?_
    refine r_iret dX6_allThere_44 rfl ?_
    exact Ex.rf
  | succ m ih =>
    intro i hi
    refine r_iload_n dX6_allThere_4 rfl ?_
    refine r_aload_n dX6_allThere_5 rfl (by decide) ?_
    refine r_getr (x := 50) dX6_allThere_6 flX6_21 sf49 (by decide) (by decide) rfl rfl ?_
    refine r_gi 3 dX6_allThere_9 flX6_111 sf50 (by decide) (by decide) rfl rfl hn ?_
    refine r_icmp_ge (tgt := 43) dX6_allThere_12 (by decide) (fun h12 => by exfalso; omega) (fun h12 => ?_)
    refine r_iload_n dX6_allThere_15 rfl ?_
    refine r_aload_n dX6_allThere_16 rfl (by decide) ?_
    refine r_getr (x := 50) dX6_allThere_17 flX6_21 sf49 (by decide) (by decide) rfl rfl ?_
    refine r_getr (x := 52) dX6_allThere_20 flX6_118 sf50 (by decide) (by decide) rfl rfl ?_
    refine r_iload_n dX6_allThere_23 rfl ?_
    refine r_iald dX6_allThere_24 sf52 (by decide) (by omega) (by omega) (by decide) (by first | assumption | ((repeat (first | (apply rd_ne; · omega) | (apply rd_eq; · omega) | (apply rd_out; · omega) | (apply rd_in; · omega))); first | assumption | rfl)) ?_
    refine r_if_ne (tgt := 34) dX6_allThere_25 (by decide) (fun h25 => ?_) (fun h25 => ?_)
    · try have h25 := bi_1.mp h25
      refine r_iconst dX6_allThere_34 (by decide) ?_
      refine r_ior dX6_allThere_35 rfl ?_
      refine r_istore_n dX6_allThere_36 rfl (by decide) st1 ?_
      refine r_iinc dX6_allThere_37 rfl rfl (by decide) (w32_id (by omega)) st2 ?_
      refine r_goto (tgt := 4) dX6_allThere_40 (by decide) ?_
      first | exact V.al (by rw [bset_t (p := (fun c : Int => M 52 c = 0)) (f := fun c => c) h25]; rfl) (ih (i + 1) (by omega)) | exact V.al (by rw [bset_f (p := (fun c : Int => M 52 c = 0)) (f := fun c => c) h25]; rfl) (ih (i + 1) (by omega))
    · try have h25 := bi_0.mp h25
      refine r_iconst dX6_allThere_28 (by decide) ?_
      refine r_iload_n dX6_allThere_29 rfl ?_
      refine r_ishl dX6_allThere_30 rfl ?_
      refine r_goto (tgt := 35) dX6_allThere_31 (by decide) ?_
      refine r_ior dX6_allThere_35 rfl ?_
      refine r_istore_n dX6_allThere_36 rfl (by decide) st1 ?_
      refine r_iinc dX6_allThere_37 rfl rfl (by decide) (w32_id (by omega)) st2 ?_
      refine r_goto (tgt := 4) dX6_allThere_40 (by decide) ?_
      first | exact V.al (by rw [bset_t (p := (fun c : Int => M 52 c = 0)) (f := fun c => c) h25]; rfl) (ih (i + 1) (by omega)) | exact V.al (by rw [bset_f (p := (fun c : Int => M 52 c = 0)) (f := fun c => c) h25]; rfl) (ih (i + 1) (by omega))
theorem s_allThere {x y z : Int} {M : Me} {n : Nat} (hn : M 50 3 = (n : Int)) (hn12 : n ≤ 12) : Con kX6_allThere 0 0 0 [(1, 49)] (Sf x y z) M (Ex (some (0, bset (fun c : Int => M 52 c = 0) (fun c => c) n)) (Sf x y z) M) := by
  refine Con.ofV (al := [(1, 49), (9, 0), (9, 0)]) 2 (by decide) (Nat.le_of_ble_eq_true rfl) rfl ?_
  refine r_iconst dX6_allThere_0 (by decide) ?_
  refine r_istore_n dX6_allThere_1 rfl (by decide) st1 ?_
  refine r_iconst dX6_allThere_2 (by decide) ?_
  refine r_istore_n dX6_allThere_3 rfl (by decide) st2 ?_
  exact l_allThere hn hn12 n 0 (by omega)
theorem l_creasesOf {x y z : Int} {M : Me} {p : Int} {n : Nat} (hn : M 50 3 = (n : Int)) (hn12 : n ≤ 12) : ∀ (m i : Nat), m + i = n → V kX6_creasesOf 0 0 0 none (Ex (some (0, bset (fun c : Int => M 209 c = p) (fun c => c) n)) (Sf x y z) M) 4 [(1, 49), (0, p), (0, bset (fun c : Int => M 209 c = p) (fun c => c) i), (0, (i : Int))] [] (Sf x y z) M 0 0 := by
  intro m
  induction m with
  | zero =>
    intro i hi
    obtain rfl : i = n := by omega
    refine r_iload_n dX6_creasesOf_4 rfl ?_
    refine r_aload_n dX6_creasesOf_5 rfl (by decide) ?_
    refine r_getr (x := 50) dX6_creasesOf_6 flX6_21 sf49 (by decide) (by decide) rfl rfl ?_
    refine r_gi 3 dX6_creasesOf_9 flX6_111 sf50 (by decide) (by decide) rfl rfl hn ?_
    refine r_icmp_ge (tgt := 41) dX6_creasesOf_12 (by decide) (fun h12 => ?_) (fun h12 => by exfalso; omega)
    refine r_iload_n dX6_creasesOf_41 rfl ?_
    refine r_iret dX6_creasesOf_42 rfl ?_
    exact Ex.rf
  | succ m ih =>
    intro i hi
    refine r_iload_n dX6_creasesOf_4 rfl ?_
    refine r_aload_n dX6_creasesOf_5 rfl (by decide) ?_
    refine r_getr (x := 50) dX6_creasesOf_6 flX6_21 sf49 (by decide) (by decide) rfl rfl ?_
    refine r_gi 3 dX6_creasesOf_9 flX6_111 sf50 (by decide) (by decide) rfl rfl hn ?_
    refine r_icmp_ge (tgt := 41) dX6_creasesOf_12 (by decide) (fun h12 => by exfalso; omega) (fun h12 => ?_)
    refine r_iload_n dX6_creasesOf_15 rfl ?_
    refine r_aload_n dX6_creasesOf_16 rfl (by decide) ?_
    refine r_getr (x := 209) dX6_creasesOf_17 flX6_39 sf49 (by decide) (by decide) rfl rfl ?_
    refine r_iload_n dX6_creasesOf_20 rfl ?_
    refine r_iald dX6_creasesOf_21 sf209 (by decide) (by omega) (by omega) (by decide) (by first | assumption | ((repeat (first | (apply rd_ne; · omega) | (apply rd_eq; · omega) | (apply rd_out; · omega) | (apply rd_in; · omega))); first | assumption | rfl)) ?_
    refine r_iload_n dX6_creasesOf_22 rfl ?_
    refine r_icmp_ne (tgt := 32) dX6_creasesOf_23 (by decide) (fun h23 => ?_) (fun h23 => ?_)
    · refine r_iconst dX6_creasesOf_32 (by decide) ?_
      refine r_ior dX6_creasesOf_33 rfl ?_
      refine r_istore_n dX6_creasesOf_34 rfl (by decide) st2 ?_
      refine r_iinc dX6_creasesOf_35 rfl rfl (by decide) (w32_id (by omega)) st3 ?_
      refine r_goto (tgt := 4) dX6_creasesOf_38 (by decide) ?_
      first | exact V.al (by rw [bset_t (p := (fun c : Int => M 209 c = p)) (f := fun c => c) h23]; rfl) (ih (i + 1) (by omega)) | exact V.al (by rw [bset_f (p := (fun c : Int => M 209 c = p)) (f := fun c => c) h23]; rfl) (ih (i + 1) (by omega))
    · refine r_iconst dX6_creasesOf_26 (by decide) ?_
      refine r_iload_n dX6_creasesOf_27 rfl ?_
      refine r_ishl dX6_creasesOf_28 rfl ?_
      refine r_goto (tgt := 33) dX6_creasesOf_29 (by decide) ?_
      refine r_ior dX6_creasesOf_33 rfl ?_
      refine r_istore_n dX6_creasesOf_34 rfl (by decide) st2 ?_
      refine r_iinc dX6_creasesOf_35 rfl rfl (by decide) (w32_id (by omega)) st3 ?_
      refine r_goto (tgt := 4) dX6_creasesOf_38 (by decide) ?_
      first | exact V.al (by rw [bset_t (p := (fun c : Int => M 209 c = p)) (f := fun c => c) h23]; rfl) (ih (i + 1) (by omega)) | exact V.al (by rw [bset_f (p := (fun c : Int => M 209 c = p)) (f := fun c => c) h23]; rfl) (ih (i + 1) (by omega))
theorem s_creasesOf {x y z : Int} {M : Me} {p : Int} {n : Nat} (hn : M 50 3 = (n : Int)) (hn12 : n ≤ 12) : Con kX6_creasesOf 0 0 0 [(1, 49), (0, p)] (Sf x y z) M (Ex (some (0, bset (fun c : Int => M 209 c = p) (fun c => c) n)) (Sf x y z) M) := by
  refine Con.ofV (al := [(1, 49), (0, p), (9, 0), (9, 0)]) 2 (by decide) (Nat.le_of_ble_eq_true rfl) rfl ?_
  refine r_iconst dX6_creasesOf_0 (by decide) ?_
  refine r_istore_n dX6_creasesOf_1 rfl (by decide) st2 ?_
  refine r_iconst dX6_creasesOf_2 (by decide) ?_
  refine r_istore_n dX6_creasesOf_3 rfl (by decide) st3 ?_
  exact l_creasesOf hn hn12 n 0 (by omega)
