theorem m_crease {x y z : Int} {M : Me} {p t d g : Int} (h0 : 0 ≤ M 430 0 ∧ M 430 0 ≤ 5) (h14 : 0 ≤ M 430 14 ∧ M 430 14 ≤ 12) : Con kX11_crease 2 0 0 [(1, 429), (0, p), (0, t), (0, d), (0, g)] (Sf x y z) M (fun v9 S9 M9 => S9 = (Sf x y z) ∧ (((0 ≤ p ∧ p ≤ M 430 0 - 1) ∧ (0 ≤ t ∧ t ≤ 99) ∧ (1 ≤ d ∧ d ≤ 9) ∧ (-9 ≤ g ∧ g ≤ 9) ∧ M 430 14 ≠ 12) ∧ v9 = some (0, M 430 14) ∧ M9 = up (up (up (up (up (up (up (up M 430 (15 + 7 * M 430 14 + 2) (p)) 430 (15 + 7 * M 430 14 + 3) (t)) 430 (15 + 7 * M 430 14 + 4) (d)) 430 (15 + 7 * M 430 14 + 5) (g)) 430 (15 + 7 * M 430 14 + 6) (0)) 430 (15 + 7 * M 430 14 + 0) (d)) 430 (15 + 7 * M 430 14 + 1) (0)) 430 (14) (M 430 14 + 1) ∨ (¬ ((0 ≤ p ∧ p ≤ M 430 0 - 1) ∧ (0 ≤ t ∧ t ≤ 99) ∧ (1 ≤ d ∧ d ≤ 9) ∧ (-9 ≤ g ∧ g ≤ 9) ∧ M 430 14 ≠ 12)) ∧ v9 = some (0, -1) ∧ M9 = M)) := by
  refine Con.ofV (al := [(1, 429), (0, p), (0, t), (0, d), (0, g), (9, 0)]) 1 (by decide) (Nat.le_of_ble_eq_true rfl) rfl ?_
  refine r_aload_n dX11_crease_0 rfl (by decide) ?_
  refine r_iload_n dX11_crease_1 rfl ?_
  refine r_cv1 dX11_crease_2 clX11_74 sf429 (by decide) (by decide) rfl (by first | decide | omega) (Nat.le_of_ble_eq_true rfl) (m_isPerson h0) ⟨Nat.zero_le _, Nat.zero_le _⟩ (fun _ => ?_)
  refine r_if_eq (tgt := 52) dX11_crease_5 (by decide) (fun h5 => ?_) (fun h5 => ?_)
  · try have h5 := bi_0.mp h5
    refine r_iconst dX11_crease_52 (by decide) ?_
    refine r_iret dX11_crease_53 rfl ?_
    first | exact ⟨rfl, Or.inl ⟨by omega, rfl, rfl⟩⟩ | exact ⟨rfl, Or.inr (⟨by omega, rfl, rfl⟩)⟩
  · try have h5 := bi_1.mp h5
    refine r_iload_n dX11_crease_8 rfl ?_
    refine r_iconst dX11_crease_9 (by decide) ?_
    refine r_bipush dX11_crease_10 (by decide) (by decide) ?_
    refine r_cs3 dX11_crease_12 clX11_62 (by first | decide | omega) (Nat.le_of_ble_eq_true rfl) (c_isIn) ⟨Nat.zero_le _, Nat.zero_le _⟩ (fun _ => ?_)
    refine r_if_eq (tgt := 52) dX11_crease_15 (by decide) (fun h15 => ?_) (fun h15 => ?_)
    · try have h15 := bi_0.mp h15
      refine r_iconst dX11_crease_52 (by decide) ?_
      refine r_iret dX11_crease_53 rfl ?_
      first | exact ⟨rfl, Or.inl ⟨by omega, rfl, rfl⟩⟩ | exact ⟨rfl, Or.inr (⟨by omega, rfl, rfl⟩)⟩
    · try have h15 := bi_1.mp h15
      refine r_iload_n dX11_crease_18 rfl ?_
      refine r_iconst dX11_crease_19 (by decide) ?_
      refine r_bipush dX11_crease_20 (by decide) (by decide) ?_
      refine r_cs3 dX11_crease_22 clX11_62 (by first | decide | omega) (Nat.le_of_ble_eq_true rfl) (c_isIn) ⟨Nat.zero_le _, Nat.zero_le _⟩ (fun _ => ?_)
      refine r_if_eq (tgt := 52) dX11_crease_25 (by decide) (fun h25 => ?_) (fun h25 => ?_)
      · try have h25 := bi_0.mp h25
        refine r_iconst dX11_crease_52 (by decide) ?_
        refine r_iret dX11_crease_53 rfl ?_
        first | exact ⟨rfl, Or.inl ⟨by omega, rfl, rfl⟩⟩ | exact ⟨rfl, Or.inr (⟨by omega, rfl, rfl⟩)⟩
      · try have h25 := bi_1.mp h25
        refine r_iload dX11_crease_28 rfl ?_
        refine r_bipush dX11_crease_30 (by decide) (by decide) ?_
        refine r_bipush dX11_crease_32 (by decide) (by decide) ?_
        refine r_cs3 dX11_crease_34 clX11_62 (by first | decide | omega) (Nat.le_of_ble_eq_true rfl) (c_isIn) ⟨Nat.zero_le _, Nat.zero_le _⟩ (fun _ => ?_)
        refine r_if_eq (tgt := 52) dX11_crease_37 (by decide) (fun h37 => ?_) (fun h37 => ?_)
        · try have h37 := bi_0.mp h37
          refine r_iconst dX11_crease_52 (by decide) ?_
          refine r_iret dX11_crease_53 rfl ?_
          first | exact ⟨rfl, Or.inl ⟨by omega, rfl, rfl⟩⟩ | exact ⟨rfl, Or.inr (⟨by omega, rfl, rfl⟩)⟩
        · try have h37 := bi_1.mp h37
          refine r_aload_n dX11_crease_40 rfl (by decide) ?_
          refine r_getr (x := 430) dX11_crease_41 flX11_7 sf429 (by decide) (by decide) rfl rfl ?_
          refine r_bipush dX11_crease_44 (by decide) (by decide) ?_
          refine r_iald dX11_crease_46 sf430 (by decide) (by omega) (by omega) (by decide) (by first | assumption | ((repeat (first | (apply rd_ne; · omega) | (apply rd_eq; · omega) | (apply rd_out; · omega) | (apply rd_in; · omega))); first | assumption | rfl)) ?_
          refine r_bipush dX11_crease_47 (by decide) (by decide) ?_
          refine r_icmp_ne (tgt := 54) dX11_crease_49 (by decide) (fun h49 => ?_) (fun h49 => ?_)
          · refine r_aload_n dX11_crease_54 rfl (by decide) ?_
            refine r_getr (x := 430) dX11_crease_55 flX11_7 sf429 (by decide) (by decide) rfl rfl ?_
            refine r_bipush dX11_crease_58 (by decide) (by decide) ?_
            refine r_iald dX11_crease_60 sf430 (by decide) (by omega) (by omega) (by decide) (by first | assumption | ((repeat (first | (apply rd_ne; · omega) | (apply rd_eq; · omega) | (apply rd_out; · omega) | (apply rd_in; · omega))); first | assumption | rfl)) ?_
            refine r_istore dX11_crease_61 rfl (by decide) st5 ?_
            refine r_aload_n dX11_crease_63 rfl (by decide) ?_
            refine r_iload dX11_crease_64 rfl ?_
            refine r_iconst dX11_crease_66 (by decide) ?_
            refine r_iload_n dX11_crease_67 rfl ?_
            refine r_cw3 dX11_crease_68 clX11_77 sf429 (by decide) (by decide) rfl (by first | decide | omega) (Nat.le_of_ble_eq_true rfl) (c_put (by omega) (by decide)) ⟨Nat.zero_le _, Nat.zero_le _⟩ ?_
            refine r_aload_n dX11_crease_71 rfl (by decide) ?_
            refine r_iload dX11_crease_72 rfl ?_
            refine r_iconst dX11_crease_74 (by decide) ?_
            refine r_iload_n dX11_crease_75 rfl ?_
            refine r_cw3 dX11_crease_76 clX11_77 sf429 (by decide) (by decide) rfl (by first | decide | omega) (Nat.le_of_ble_eq_true rfl) (c_put (by omega) (by decide)) ⟨Nat.zero_le _, Nat.zero_le _⟩ ?_
            refine r_aload_n dX11_crease_79 rfl (by decide) ?_
            refine r_iload dX11_crease_80 rfl ?_
            refine r_iconst dX11_crease_82 (by decide) ?_
            refine r_iload_n dX11_crease_83 rfl ?_
            refine r_cw3 dX11_crease_84 clX11_77 sf429 (by decide) (by decide) rfl (by first | decide | omega) (Nat.le_of_ble_eq_true rfl) (c_put (by omega) (by decide)) ⟨Nat.zero_le _, Nat.zero_le _⟩ ?_
            refine r_aload_n dX11_crease_87 rfl (by decide) ?_
            refine r_iload dX11_crease_88 rfl ?_
            refine r_iconst dX11_crease_90 (by decide) ?_
            refine r_iload dX11_crease_91 rfl ?_
            refine r_cw3 dX11_crease_93 clX11_77 sf429 (by decide) (by decide) rfl (by first | decide | omega) (Nat.le_of_ble_eq_true rfl) (c_put (by omega) (by decide)) ⟨Nat.zero_le _, Nat.zero_le _⟩ ?_
            refine r_aload_n dX11_crease_96 rfl (by decide) ?_
            refine r_iload dX11_crease_97 rfl ?_
            refine r_bipush dX11_crease_99 (by decide) (by decide) ?_
            refine r_iconst dX11_crease_101 (by decide) ?_
            refine r_cw3 dX11_crease_102 clX11_77 sf429 (by decide) (by decide) rfl (by first | decide | omega) (Nat.le_of_ble_eq_true rfl) (c_put (by omega) (by decide)) ⟨Nat.zero_le _, Nat.zero_le _⟩ ?_
            refine r_aload_n dX11_crease_105 rfl (by decide) ?_
            refine r_iload dX11_crease_106 rfl ?_
            refine r_iconst dX11_crease_108 (by decide) ?_
            refine r_iload_n dX11_crease_109 rfl ?_
            refine r_cw3 dX11_crease_110 clX11_77 sf429 (by decide) (by decide) rfl (by first | decide | omega) (Nat.le_of_ble_eq_true rfl) (c_put (by omega) (by decide)) ⟨Nat.zero_le _, Nat.zero_le _⟩ ?_
            refine r_aload_n dX11_crease_113 rfl (by decide) ?_
            refine r_iload dX11_crease_114 rfl ?_
            refine r_iconst dX11_crease_116 (by decide) ?_
            refine r_iconst dX11_crease_117 (by decide) ?_
            refine r_cw3 dX11_crease_118 clX11_77 sf429 (by decide) (by decide) rfl (by first | decide | omega) (Nat.le_of_ble_eq_true rfl) (c_put (by omega) (by decide)) ⟨Nat.zero_le _, Nat.zero_le _⟩ ?_
            refine r_aload_n dX11_crease_121 rfl (by decide) ?_
            refine r_getr (x := 430) dX11_crease_122 flX11_7 sf429 (by decide) (by decide) rfl rfl ?_
            refine r_bipush dX11_crease_125 (by decide) (by decide) ?_
            refine r_dup2 dX11_crease_127 (Nat.ne_of_beq_eq_false rfl) (Nat.ne_of_beq_eq_false rfl) ?_
            refine r_iald dX11_crease_128 sf430 (by decide) (by omega) (by omega) (by decide) (by first | assumption | ((repeat (first | (apply rd_ne; · omega) | (apply rd_eq; · omega) | (apply rd_out; · omega) | (apply rd_in; · omega))); first | assumption | rfl)) ?_
            refine r_iconst dX11_crease_129 (by decide) ?_
            refine r_iadd dX11_crease_130 (w32_id (by omega)) ?_
            refine r_iast dX11_crease_131 sf430 (by decide) (by omega) (by omega) (by decide) rfl ?_
            refine r_iload dX11_crease_132 rfl ?_
            refine r_iret dX11_crease_134 rfl ?_
            first | exact ⟨rfl, Or.inl ⟨by omega, rfl, rfl⟩⟩ | exact ⟨rfl, Or.inr (⟨by omega, rfl, rfl⟩)⟩
          · refine r_iconst dX11_crease_52 (by decide) ?_
            refine r_iret dX11_crease_53 rfl ?_
            first | exact ⟨rfl, Or.inl ⟨by omega, rfl, rfl⟩⟩ | exact ⟨rfl, Or.inr (⟨by omega, rfl, rfl⟩)⟩
theorem m_tie {x y z : Int} {M : Me} {c e : Int} (h14 : 0 ≤ M 430 14 ∧ M 430 14 ≤ 12) : Con kX11_tie 2 0 0 [(1, 429), (0, c), (0, e)] (Sf x y z) M (fun v9 S9 M9 => S9 = (Sf x y z) ∧ (((0 ≤ c ∧ c ≤ M 430 14 - 1) ∧ (0 ≤ e ∧ e ≤ M 430 14 - 1) ∧ c ≠ e ∧ ¬ and32 (shr32 (M 430 (15 + 7 * c + 6)) e) 1 = 1) ∧ v9 = some (0, 1) ∧ M9 = up M 430 (15 + 7 * c + 6) (or32 (M 430 (15 + 7 * c + 6)) (shl32 1 e)) ∨ (¬ ((0 ≤ c ∧ c ≤ M 430 14 - 1) ∧ (0 ≤ e ∧ e ≤ M 430 14 - 1) ∧ c ≠ e ∧ ¬ and32 (shr32 (M 430 (15 + 7 * c + 6)) e) 1 = 1)) ∧ v9 = some (0, 0) ∧ M9 = M)) := by
  refine Con.ofV (al := [(1, 429), (0, c), (0, e)]) 0 (by decide) (Nat.le_of_ble_eq_true rfl) rfl ?_
  refine r_aload_n dX11_tie_0 rfl (by decide) ?_
  refine r_iload_n dX11_tie_1 rfl ?_
  refine r_cv1 dX11_tie_2 clX11_81 sf429 (by decide) (by decide) rfl (by first | decide | omega) (Nat.le_of_ble_eq_true rfl) (m_isCrease h14) ⟨Nat.zero_le _, Nat.zero_le _⟩ (fun _ => ?_)
  refine r_if_eq (tgt := 35) dX11_tie_5 (by decide) (fun h5 => ?_) (fun h5 => ?_)
  · try have h5 := bi_0.mp h5
    refine r_iconst dX11_tie_35 (by decide) ?_
    refine r_zret dX11_tie_36 rfl (by omega) ?_
    first | exact ⟨rfl, Or.inl ⟨by omega, rfl, rfl⟩⟩ | exact ⟨rfl, Or.inr (⟨by omega, rfl, rfl⟩)⟩
  · try have h5 := bi_1.mp h5
    refine r_aload_n dX11_tie_8 rfl (by decide) ?_
    refine r_iload_n dX11_tie_9 rfl ?_
    refine r_cv1 dX11_tie_10 clX11_81 sf429 (by decide) (by decide) rfl (by first | decide | omega) (Nat.le_of_ble_eq_true rfl) (m_isCrease h14) ⟨Nat.zero_le _, Nat.zero_le _⟩ (fun _ => ?_)
    refine r_if_eq (tgt := 35) dX11_tie_13 (by decide) (fun h13 => ?_) (fun h13 => ?_)
    · try have h13 := bi_0.mp h13
      refine r_iconst dX11_tie_35 (by decide) ?_
      refine r_zret dX11_tie_36 rfl (by omega) ?_
      first | exact ⟨rfl, Or.inl ⟨by omega, rfl, rfl⟩⟩ | exact ⟨rfl, Or.inr (⟨by omega, rfl, rfl⟩)⟩
    · try have h13 := bi_1.mp h13
      refine r_iload_n dX11_tie_16 rfl ?_
      refine r_iload_n dX11_tie_17 rfl ?_
      refine r_icmp_eq (tgt := 35) dX11_tie_18 (by decide) (fun h18 => ?_) (fun h18 => ?_)
      · refine r_iconst dX11_tie_35 (by decide) ?_
        refine r_zret dX11_tie_36 rfl (by omega) ?_
        first | exact ⟨rfl, Or.inl ⟨by omega, rfl, rfl⟩⟩ | exact ⟨rfl, Or.inr (⟨by omega, rfl, rfl⟩)⟩
      · refine r_aload_n dX11_tie_21 rfl (by decide) ?_
        refine r_iload_n dX11_tie_22 rfl ?_
        refine r_bipush dX11_tie_23 (by decide) (by decide) ?_
        refine r_cv2 dX11_tie_25 clX11_66 sf429 (by decide) (by decide) rfl (by first | decide | omega) (Nat.le_of_ble_eq_true rfl) (c_get (by omega) (by decide)) ⟨Nat.zero_le _, Nat.zero_le _⟩ (fun _ => ?_)
        refine r_iload_n dX11_tie_28 rfl ?_
        refine r_cs2 dX11_tie_29 clX11_84 (by first | decide | omega) (Nat.le_of_ble_eq_true rfl) (c_has) ⟨Nat.zero_le _, Nat.zero_le _⟩ (fun _ => ?_)
        refine r_if_eq (tgt := 37) dX11_tie_32 (by decide) (fun h32 => ?_) (fun h32 => ?_)
        · try have h32 := bi_0.mp h32
          refine r_aload_n dX11_tie_37 rfl (by decide) ?_
          refine r_iload_n dX11_tie_38 rfl ?_
          refine r_bipush dX11_tie_39 (by decide) (by decide) ?_
          refine r_aload_n dX11_tie_41 rfl (by decide) ?_
          refine r_iload_n dX11_tie_42 rfl ?_
          refine r_bipush dX11_tie_43 (by decide) (by decide) ?_
          refine r_cv2 dX11_tie_45 clX11_66 sf429 (by decide) (by decide) rfl (by first | decide | omega) (Nat.le_of_ble_eq_true rfl) (c_get (by omega) (by decide)) ⟨Nat.zero_le _, Nat.zero_le _⟩ (fun _ => ?_)
          refine r_iconst dX11_tie_48 (by decide) ?_
          refine r_iload_n dX11_tie_49 rfl ?_
          refine r_ishl dX11_tie_50 rfl ?_
          refine r_ior dX11_tie_51 rfl ?_
          refine r_cw3 dX11_tie_52 clX11_77 sf429 (by decide) (by decide) rfl (by first | decide | omega) (Nat.le_of_ble_eq_true rfl) (c_put (by omega) (by decide)) ⟨Nat.zero_le _, Nat.zero_le _⟩ ?_
          refine r_iconst dX11_tie_55 (by decide) ?_
          refine r_zret dX11_tie_56 rfl (by omega) ?_
          first | exact ⟨rfl, Or.inl ⟨by omega, rfl, rfl⟩⟩ | exact ⟨rfl, Or.inr (⟨by omega, rfl, rfl⟩)⟩
        · try have h32 := bi_1.mp h32
          refine r_iconst dX11_tie_35 (by decide) ?_
          refine r_zret dX11_tie_36 rfl (by omega) ?_
          first | exact ⟨rfl, Or.inl ⟨by omega, rfl, rfl⟩⟩ | exact ⟨rfl, Or.inr (⟨by omega, rfl, rfl⟩)⟩
def oneA (M : Me) (b k : Int) : Me := up (up M 433 k b) 429 4 (k + 1)
def fourA (M : Me) (v k : Int) : Me := oneA (oneA (oneA (oneA M (and32 (shr32 v 24) 255) k) (and32 (shr32 v 16) 255) (k + 1)) (and32 (shr32 v 8) 255) (k + 1 + 1)) (and32 (shr32 v 0) 255) (k + 1 + 1 + 1)
theorem fourA_4 {M : Me} {v k : Int} : fourA M v k 429 4 = k + 4 := by
  unfold fourA
  exact (up_eq ⟨rfl, rfl⟩).trans (by omega)
theorem fourA_o {M : Me} {v k a j : Int} (h : ¬ (a = 429 ∧ j = 4) ∧ ¬ (a = 433 ∧ k ≤ j ∧ j < k + 4)) : fourA M v k a j = M a j := by
  unfold fourA oneA
  exact rd_ne h.1 (rd_ne (by omega) (rd_ne h.1 (rd_ne (by omega) (rd_ne h.1 (rd_ne (by omega) (rd_ne h.1 (rd_ne (by omega) rfl)))))))
theorem m_four {x y z : Int} {M : Me} {v k : Int} (hk : M 429 4 = k) (hk0 : 0 ≤ k ∧ k ≤ 296) : Con kX11_four 0 0 0 [(1, 429), (0, v)] (Sf x y z) M (Ex none (Sf x y z) (fourA M v k)) := by
  refine Con.ofV (al := [(1, 429), (0, v), (9, 0)]) 1 (by decide) (Nat.le_of_ble_eq_true rfl) rfl ?_
  refine r_bipush dX11_four_0 (by decide) (by decide) ?_
  refine r_istore_n dX11_four_2 rfl (by decide) st2 ?_
  refine r_iload_n dX11_four_3 rfl ?_
  refine r_if_lt (tgt := 39) dX11_four_4 (by decide) (fun h4 => by exfalso; omega) (fun h4 => ?_)
  refine r_aload_n dX11_four_7 rfl (by decide) ?_
  refine r_getr (x := 433) dX11_four_8 flX11_19 sf429 (by decide) (by decide) rfl rfl ?_
  refine r_aload_n dX11_four_11 rfl (by decide) ?_
  refine r_gi 4 dX11_four_12 flX11_88 sf429 (by decide) (by decide) rfl rfl (by first | assumption | ((repeat (first | (apply rd_ne; · omega) | (apply rd_eq; · omega) | (apply rd_out; · omega) | (apply rd_in; · omega))); first | assumption | rfl)) ?_
  refine r_iload_n dX11_four_15 rfl ?_
  refine r_iload_n dX11_four_16 rfl ?_
  refine r_ishr dX11_four_17 rfl ?_
  refine r_sipush dX11_four_18 (by decide) (by decide) ?_
  refine r_iand dX11_four_21 rfl ?_
  refine r_iast dX11_four_22 sf433 (by decide) (by omega) (by omega) (by decide) rfl ?_
  refine r_aload_n dX11_four_23 rfl (by decide) ?_
  refine r_dup dX11_four_24 (Nat.ne_of_beq_eq_false rfl) ?_
  refine r_gi 4 dX11_four_25 flX11_88 sf429 (by decide) (by decide) rfl rfl (by first | assumption | ((repeat (first | (apply rd_ne; · omega) | (apply rd_eq; · omega) | (apply rd_out; · omega) | (apply rd_in; · omega))); first | assumption | rfl)) ?_
  refine r_iconst dX11_four_28 (by decide) ?_
  refine r_iadd dX11_four_29 (w32_id (by omega)) ?_
  refine r_pi 4 dX11_four_30 fpX11_88 sf429 (by decide) (by decide) rfl rfl ?_
  refine r_iinc dX11_four_33 rfl rfl (by decide) (w32_id (by omega)) st2 ?_
  refine r_goto (tgt := 3) dX11_four_36 (by decide) ?_
  refine r_iload_n dX11_four_3 rfl ?_
  refine r_if_lt (tgt := 39) dX11_four_4 (by decide) (fun h4 => by exfalso; omega) (fun h4 => ?_)
  refine r_aload_n dX11_four_7 rfl (by decide) ?_
  refine r_getr (x := 433) dX11_four_8 flX11_19 sf429 (by decide) (by decide) rfl rfl ?_
  refine r_aload_n dX11_four_11 rfl (by decide) ?_
  refine r_gi 4 dX11_four_12 flX11_88 sf429 (by decide) (by decide) rfl rfl (by first | assumption | ((repeat (first | (apply rd_ne; · omega) | (apply rd_eq; · omega) | (apply rd_out; · omega) | (apply rd_in; · omega))); first | assumption | rfl)) ?_
  refine r_iload_n dX11_four_15 rfl ?_
  refine r_iload_n dX11_four_16 rfl ?_
  refine r_ishr dX11_four_17 rfl ?_
  refine r_sipush dX11_four_18 (by decide) (by decide) ?_
  refine r_iand dX11_four_21 rfl ?_
  refine r_iast dX11_four_22 sf433 (by decide) (by omega) (by omega) (by decide) rfl ?_
  refine r_aload_n dX11_four_23 rfl (by decide) ?_
  refine r_dup dX11_four_24 (Nat.ne_of_beq_eq_false rfl) ?_
  refine r_gi 4 dX11_four_25 flX11_88 sf429 (by decide) (by decide) rfl rfl (by first | assumption | ((repeat (first | (apply rd_ne; · omega) | (apply rd_eq; · omega) | (apply rd_out; · omega) | (apply rd_in; · omega))); first | assumption | rfl)) ?_
  refine r_iconst dX11_four_28 (by decide) ?_
  refine r_iadd dX11_four_29 (w32_id (by omega)) ?_
  refine r_pi 4 dX11_four_30 fpX11_88 sf429 (by decide) (by decide) rfl rfl ?_
  refine r_iinc dX11_four_33 rfl rfl (by decide) (w32_id (by omega)) st2 ?_
  refine r_goto (tgt := 3) dX11_four_36 (by decide) ?_
  refine r_iload_n dX11_four_3 rfl ?_
  refine r_if_lt (tgt := 39) dX11_four_4 (by decide) (fun h4 => by exfalso; omega) (fun h4 => ?_)
  refine r_aload_n dX11_four_7 rfl (by decide) ?_
  refine r_getr (x := 433) dX11_four_8 flX11_19 sf429 (by decide) (by decide) rfl rfl ?_
  refine r_aload_n dX11_four_11 rfl (by decide) ?_
  refine r_gi 4 dX11_four_12 flX11_88 sf429 (by decide) (by decide) rfl rfl (by first | assumption | ((repeat (first | (apply rd_ne; · omega) | (apply rd_eq; · omega) | (apply rd_out; · omega) | (apply rd_in; · omega))); first | assumption | rfl)) ?_
  refine r_iload_n dX11_four_15 rfl ?_
  refine r_iload_n dX11_four_16 rfl ?_
  refine r_ishr dX11_four_17 rfl ?_
  refine r_sipush dX11_four_18 (by decide) (by decide) ?_
  refine r_iand dX11_four_21 rfl ?_
  refine r_iast dX11_four_22 sf433 (by decide) (by omega) (by omega) (by decide) rfl ?_
  refine r_aload_n dX11_four_23 rfl (by decide) ?_
  refine r_dup dX11_four_24 (Nat.ne_of_beq_eq_false rfl) ?_
  refine r_gi 4 dX11_four_25 flX11_88 sf429 (by decide) (by decide) rfl rfl (by first | assumption | ((repeat (first | (apply rd_ne; · omega) | (apply rd_eq; · omega) | (apply rd_out; · omega) | (apply rd_in; · omega))); first | assumption | rfl)) ?_
  refine r_iconst dX11_four_28 (by decide) ?_
  refine r_iadd dX11_four_29 (w32_id (by omega)) ?_
  refine r_pi 4 dX11_four_30 fpX11_88 sf429 (by decide) (by decide) rfl rfl ?_
  refine r_iinc dX11_four_33 rfl rfl (by decide) (w32_id (by omega)) st2 ?_
  refine r_goto (tgt := 3) dX11_four_36 (by decide) ?_
  refine r_iload_n dX11_four_3 rfl ?_
  refine r_if_lt (tgt := 39) dX11_four_4 (by decide) (fun h4 => by exfalso; omega) (fun h4 => ?_)
  refine r_aload_n dX11_four_7 rfl (by decide) ?_
  refine r_getr (x := 433) dX11_four_8 flX11_19 sf429 (by decide) (by decide) rfl rfl ?_
  refine r_aload_n dX11_four_11 rfl (by decide) ?_
  refine r_gi 4 dX11_four_12 flX11_88 sf429 (by decide) (by decide) rfl rfl (by first | assumption | ((repeat (first | (apply rd_ne; · omega) | (apply rd_eq; · omega) | (apply rd_out; · omega) | (apply rd_in; · omega))); first | assumption | rfl)) ?_
  refine r_iload_n dX11_four_15 rfl ?_
  refine r_iload_n dX11_four_16 rfl ?_
  refine r_ishr dX11_four_17 rfl ?_
  refine r_sipush dX11_four_18 (by decide) (by decide) ?_
  refine r_iand dX11_four_21 rfl ?_
  refine r_iast dX11_four_22 sf433 (by decide) (by omega) (by omega) (by decide) rfl ?_
  refine r_aload_n dX11_four_23 rfl (by decide) ?_
  refine r_dup dX11_four_24 (Nat.ne_of_beq_eq_false rfl) ?_
  refine r_gi 4 dX11_four_25 flX11_88 sf429 (by decide) (by decide) rfl rfl (by first | assumption | ((repeat (first | (apply rd_ne; · omega) | (apply rd_eq; · omega) | (apply rd_out; · omega) | (apply rd_in; · omega))); first | assumption | rfl)) ?_
  refine r_iconst dX11_four_28 (by decide) ?_
  refine r_iadd dX11_four_29 (w32_id (by omega)) ?_
  refine r_pi 4 dX11_four_30 fpX11_88 sf429 (by decide) (by decide) rfl rfl ?_
  refine r_iinc dX11_four_33 rfl rfl (by decide) (w32_id (by omega)) st2 ?_
  refine r_goto (tgt := 3) dX11_four_36 (by decide) ?_
  refine r_iload_n dX11_four_3 rfl ?_
  refine r_if_lt (tgt := 39) dX11_four_4 (by decide) (fun h4 => ?_) (fun h4 => by exfalso; omega)
  refine r_ret0 dX11_four_39 rfl ?_
  exact ⟨rfl, rfl, rfl⟩
theorem m_feed {x y z : Int} {M : Me} {v1 v2 v3 v4 v5 k : Int} (hk : M 429 4 = k) (hk0 : 0 ≤ k ∧ k ≤ 300) : Con kX11_feed 1 0 0 [(1, 429), (0, v1), (0, v2), (0, v3), (0, v4), (0, v5)] (Sf x y z) M (fun v9 S9 M9 => S9 = (Sf x y z) ∧ ((k + 20 ≤ 300) ∧ v9 = some (0, k + 4 + 4 + 4 + 4 + 4) ∧ M9 = (fourA (fourA (fourA (fourA (fourA M v1 (k)) v2 (k + 4)) v3 (k + 4 + 4)) v4 (k + 4 + 4 + 4)) v5 (k + 4 + 4 + 4 + 4)) ∨ (¬ k + 20 ≤ 300) ∧ v9 = some (0, -1) ∧ M9 = M)) := by
  refine Con.ofV (al := [(1, 429), (0, v1), (0, v2), (0, v3), (0, v4), (0, v5)]) 0 (by decide) (Nat.le_of_ble_eq_true rfl) rfl ?_
  refine r_aload_n dX11_feed_0 rfl (by decide) ?_
  refine r_gi 4 dX11_feed_1 flX11_88 sf429 (by decide) (by decide) rfl rfl hk ?_
  refine r_bipush dX11_feed_4 (by decide) (by decide) ?_
  refine r_iadd dX11_feed_6 (w32_id (by omega)) ?_
  refine r_sipush dX11_feed_7 (by decide) (by decide) ?_
  refine r_icmp_le (tgt := 15) dX11_feed_10 (by decide) (fun h10 => ?_) (fun h10 => ?_)
  · refine r_aload_n dX11_feed_15 rfl (by decide) ?_
    refine r_iload_n dX11_feed_16 rfl ?_
    refine r_cw1 dX11_feed_17 clX11_91 sf429 (by decide) (by decide) rfl (by first | decide | omega) (Nat.le_of_ble_eq_true rfl) ((m_four hk (by omega))) ⟨Nat.zero_le _, Nat.zero_le _⟩ ?_
    refine r_aload_n dX11_feed_20 rfl (by decide) ?_
    refine r_iload_n dX11_feed_21 rfl ?_
    refine r_cw1 dX11_feed_22 clX11_91 sf429 (by decide) (by decide) rfl (by first | decide | omega) (Nat.le_of_ble_eq_true rfl) ((m_four fourA_4 (by omega))) ⟨Nat.zero_le _, Nat.zero_le _⟩ ?_
    refine r_aload_n dX11_feed_25 rfl (by decide) ?_
    refine r_iload_n dX11_feed_26 rfl ?_
    refine r_cw1 dX11_feed_27 clX11_91 sf429 (by decide) (by decide) rfl (by first | decide | omega) (Nat.le_of_ble_eq_true rfl) ((m_four fourA_4 (by omega))) ⟨Nat.zero_le _, Nat.zero_le _⟩ ?_
    refine r_aload_n dX11_feed_30 rfl (by decide) ?_
    refine r_iload dX11_feed_31 rfl ?_
    refine r_cw1 dX11_feed_33 clX11_91 sf429 (by decide) (by decide) rfl (by first | decide | omega) (Nat.le_of_ble_eq_true rfl) ((m_four fourA_4 (by omega))) ⟨Nat.zero_le _, Nat.zero_le _⟩ ?_
    refine r_aload_n dX11_feed_36 rfl (by decide) ?_
    refine r_iload dX11_feed_37 rfl ?_
    refine r_cw1 dX11_feed_39 clX11_91 sf429 (by decide) (by decide) rfl (by first | decide | omega) (Nat.le_of_ble_eq_true rfl) ((m_four fourA_4 (by omega))) ⟨Nat.zero_le _, Nat.zero_le _⟩ ?_
    refine r_aload_n dX11_feed_42 rfl (by decide) ?_
    refine r_gi 4 dX11_feed_43 flX11_88 sf429 (by decide) (by decide) rfl rfl fourA_4 ?_
    refine r_iret dX11_feed_46 rfl ?_
    first | exact ⟨rfl, Or.inl ⟨by omega, rfl, rfl⟩⟩ | exact ⟨rfl, Or.inr (⟨by omega, rfl, rfl⟩)⟩
  · refine r_iconst dX11_feed_13 (by decide) ?_
    refine r_iret dX11_feed_14 rfl ?_
    first | exact ⟨rfl, Or.inl ⟨by omega, rfl, rfl⟩⟩ | exact ⟨rfl, Or.inr (⟨by omega, rfl, rfl⟩)⟩
