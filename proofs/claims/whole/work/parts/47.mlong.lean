/-- a word of more than six letters: its first four and the rest -/
def lgO (M : Me) (u v k : Int) : Int := if M 429 9 = 2 ∧ M 429 7 - M 429 8 = k ∧ w4L (bta M (M 429 8)) (bta M (M 429 8 + 1)) (bta M (M 429 8 + 2)) (bta M (M 429 8 + 3)) = u ∧ (if k = 7 then w3L (bta M (M 429 8 + 4)) (bta M (M 429 8 + 5)) (bta M (M 429 8 + 6)) else w4L (bta M (M 429 8 + 4)) (bta M (M 429 8 + 5)) (bta M (M 429 8 + 6)) (bta M (M 429 8 + 7))) = v then 1 else 0
theorem m_isLong {x y z : Int} {M : Me} {u v k : Int} (h4 : M 429 4 ≤ 300) (h7 : 0 ≤ M 429 7 ∧ M 429 7 ≤ 300) (h8 : 0 ≤ M 429 8 ∧ M 429 8 ≤ 300) : Con kX11_isLong 4 0 0 [(1, 429), (2, u), (2, v), (0, k)] (Sf x y z) M (Ex (some (0, lgO M u v k)) (Sf x y z) M) := by
  refine Con.ofV (al := [(1, 429), (2, u), (9, 0), (2, v), (9, 0), (0, k), (9, 0), (9, 0)]) 2 (by decide) (Nat.le_of_ble_eq_true rfl) rfl ?_
  refine r_aload_n dX11_isLong_0 rfl (by decide) ?_
  refine r_gi 9 dX11_isLong_1 flX11_105 sf429 (by decide) (by decide) rfl rfl (by first | assumption | ((repeat (first | (apply rd_ne; · omega) | (apply rd_eq; · omega) | (apply rd_out; · omega) | (apply rd_in; · omega))); first | assumption | rfl)) ?_
  refine r_iconst dX11_isLong_4 (by decide) ?_
  refine r_icmp_ne (tgt := 22) dX11_isLong_5 (by decide) (fun h5 => ?_) (fun h5 => ?_)
  · refine r_iconst dX11_isLong_22 (by decide) ?_
    refine r_zret dX11_isLong_23 rfl (by omega) ?_
    refine ⟨?_, rfl, rfl⟩
    unfold lgO
    first | (rw [if_pos ⟨by omega, by omega, by assumption, by first | (rw [if_pos (by omega)]; assumption) | (rw [if_neg (by omega)]; assumption)⟩]; done) | (rw [if_neg (fun q => by first | omega | exact absurd q.2.2.1 (by assumption) | (have q4 := q.2.2.2; rw [if_pos (by omega)] at q4; exact absurd q4 (by assumption)) | (have q4 := q.2.2.2; rw [if_neg (by omega)] at q4; exact absurd q4 (by assumption)))]; done)
  · refine r_aload_n dX11_isLong_8 rfl (by decide) ?_
    refine r_gi 7 dX11_isLong_9 flX11_95 sf429 (by decide) (by decide) rfl rfl (by first | assumption | ((repeat (first | (apply rd_ne; · omega) | (apply rd_eq; · omega) | (apply rd_out; · omega) | (apply rd_in; · omega))); first | assumption | rfl)) ?_
    refine r_aload_n dX11_isLong_12 rfl (by decide) ?_
    refine r_gi 8 dX11_isLong_13 flX11_102 sf429 (by decide) (by decide) rfl rfl (by first | assumption | ((repeat (first | (apply rd_ne; · omega) | (apply rd_eq; · omega) | (apply rd_out; · omega) | (apply rd_in; · omega))); first | assumption | rfl)) ?_
    refine r_isub dX11_isLong_16 (w32_id (by omega)) ?_
    refine r_iload dX11_isLong_17 rfl ?_
    refine r_icmp_eq (tgt := 24) dX11_isLong_19 (by decide) (fun h19 => ?_) (fun h19 => ?_)
    · refine r_iload dX11_isLong_24 rfl ?_
      refine r_bipush dX11_isLong_26 (by decide) (by decide) ?_
      refine r_icmp_ne (tgt := 68) dX11_isLong_28 (by decide) (fun h28 => ?_) (fun h28 => ?_)
      · refine r_aload_n dX11_isLong_68 rfl (by decide) ?_
        refine r_aload_n dX11_isLong_69 rfl (by decide) ?_
        refine r_gi 8 dX11_isLong_70 flX11_102 sf429 (by decide) (by decide) rfl rfl (by first | assumption | ((repeat (first | (apply rd_ne; · omega) | (apply rd_eq; · omega) | (apply rd_out; · omega) | (apply rd_in; · omega))); first | assumption | rfl)) ?_
        refine r_iconst dX11_isLong_73 (by decide) ?_
        refine r_iadd dX11_isLong_74 (w32_id (by omega)) ?_
        refine r_cv1 dX11_isLong_75 clX11_98 sf429 (by decide) (by decide) rfl (by first | decide | omega) (Nat.le_of_ble_eq_true rfl) ((c_byteAt (by omega) h4)) ⟨Nat.zero_le _, Nat.zero_le _⟩ (fun _ => ?_)
        refine r_aload_n dX11_isLong_78 rfl (by decide) ?_
        refine r_aload_n dX11_isLong_79 rfl (by decide) ?_
        refine r_gi 8 dX11_isLong_80 flX11_102 sf429 (by decide) (by decide) rfl rfl (by first | assumption | ((repeat (first | (apply rd_ne; · omega) | (apply rd_eq; · omega) | (apply rd_out; · omega) | (apply rd_in; · omega))); first | assumption | rfl)) ?_
        refine r_iconst dX11_isLong_83 (by decide) ?_
        refine r_iadd dX11_isLong_84 (w32_id (by omega)) ?_
        refine r_cv1 dX11_isLong_85 clX11_98 sf429 (by decide) (by decide) rfl (by first | decide | omega) (Nat.le_of_ble_eq_true rfl) ((c_byteAt (by omega) h4)) ⟨Nat.zero_le _, Nat.zero_le _⟩ (fun _ => ?_)
        refine r_aload_n dX11_isLong_88 rfl (by decide) ?_
        refine r_aload_n dX11_isLong_89 rfl (by decide) ?_
        refine r_gi 8 dX11_isLong_90 flX11_102 sf429 (by decide) (by decide) rfl rfl (by first | assumption | ((repeat (first | (apply rd_ne; · omega) | (apply rd_eq; · omega) | (apply rd_out; · omega) | (apply rd_in; · omega))); first | assumption | rfl)) ?_
        refine r_bipush dX11_isLong_93 (by decide) (by decide) ?_
        refine r_iadd dX11_isLong_95 (w32_id (by omega)) ?_
        refine r_cv1 dX11_isLong_96 clX11_98 sf429 (by decide) (by decide) rfl (by first | decide | omega) (Nat.le_of_ble_eq_true rfl) ((c_byteAt (by omega) h4)) ⟨Nat.zero_le _, Nat.zero_le _⟩ (fun _ => ?_)
        refine r_aload_n dX11_isLong_99 rfl (by decide) ?_
        refine r_aload_n dX11_isLong_100 rfl (by decide) ?_
        refine r_gi 8 dX11_isLong_101 flX11_102 sf429 (by decide) (by decide) rfl rfl (by first | assumption | ((repeat (first | (apply rd_ne; · omega) | (apply rd_eq; · omega) | (apply rd_out; · omega) | (apply rd_in; · omega))); first | assumption | rfl)) ?_
        refine r_bipush dX11_isLong_104 (by decide) (by decide) ?_
        refine r_iadd dX11_isLong_106 (w32_id (by omega)) ?_
        refine r_cv1 dX11_isLong_107 clX11_98 sf429 (by decide) (by decide) rfl (by first | decide | omega) (Nat.le_of_ble_eq_true rfl) ((c_byteAt (by omega) h4)) ⟨Nat.zero_le _, Nat.zero_le _⟩ (fun _ => ?_)
        refine r_cs4 dX11_isLong_110 clX11_135 (by first | decide | omega) (Nat.le_of_ble_eq_true rfl) (c_w4) ⟨Nat.zero_le _, Nat.zero_le _⟩ (fun _ => ?_)
        refine r_lstore dX11_isLong_113 rfl (by decide) sl6 ?_
        refine r_aload_n dX11_isLong_115 rfl (by decide) ?_
        refine r_aload_n dX11_isLong_116 rfl (by decide) ?_
        refine r_gi 8 dX11_isLong_117 flX11_102 sf429 (by decide) (by decide) rfl rfl (by first | assumption | ((repeat (first | (apply rd_ne; · omega) | (apply rd_eq; · omega) | (apply rd_out; · omega) | (apply rd_in; · omega))); first | assumption | rfl)) ?_
        refine r_cv1 dX11_isLong_120 clX11_98 sf429 (by decide) (by decide) rfl (by first | decide | omega) (Nat.le_of_ble_eq_true rfl) ((c_byteAt (by omega) h4)) ⟨Nat.zero_le _, Nat.zero_le _⟩ (fun _ => ?_)
        refine r_aload_n dX11_isLong_123 rfl (by decide) ?_
        refine r_aload_n dX11_isLong_124 rfl (by decide) ?_
        refine r_gi 8 dX11_isLong_125 flX11_102 sf429 (by decide) (by decide) rfl rfl (by first | assumption | ((repeat (first | (apply rd_ne; · omega) | (apply rd_eq; · omega) | (apply rd_out; · omega) | (apply rd_in; · omega))); first | assumption | rfl)) ?_
        refine r_iconst dX11_isLong_128 (by decide) ?_
        refine r_iadd dX11_isLong_129 (w32_id (by omega)) ?_
        refine r_cv1 dX11_isLong_130 clX11_98 sf429 (by decide) (by decide) rfl (by first | decide | omega) (Nat.le_of_ble_eq_true rfl) ((c_byteAt (by omega) h4)) ⟨Nat.zero_le _, Nat.zero_le _⟩ (fun _ => ?_)
        refine r_aload_n dX11_isLong_133 rfl (by decide) ?_
        refine r_aload_n dX11_isLong_134 rfl (by decide) ?_
        refine r_gi 8 dX11_isLong_135 flX11_102 sf429 (by decide) (by decide) rfl rfl (by first | assumption | ((repeat (first | (apply rd_ne; · omega) | (apply rd_eq; · omega) | (apply rd_out; · omega) | (apply rd_in; · omega))); first | assumption | rfl)) ?_
        refine r_iconst dX11_isLong_138 (by decide) ?_
        refine r_iadd dX11_isLong_139 (w32_id (by omega)) ?_
        refine r_cv1 dX11_isLong_140 clX11_98 sf429 (by decide) (by decide) rfl (by first | decide | omega) (Nat.le_of_ble_eq_true rfl) ((c_byteAt (by omega) h4)) ⟨Nat.zero_le _, Nat.zero_le _⟩ (fun _ => ?_)
        refine r_aload_n dX11_isLong_143 rfl (by decide) ?_
        refine r_aload_n dX11_isLong_144 rfl (by decide) ?_
        refine r_gi 8 dX11_isLong_145 flX11_102 sf429 (by decide) (by decide) rfl rfl (by first | assumption | ((repeat (first | (apply rd_ne; · omega) | (apply rd_eq; · omega) | (apply rd_out; · omega) | (apply rd_in; · omega))); first | assumption | rfl)) ?_
        refine r_iconst dX11_isLong_148 (by decide) ?_
        refine r_iadd dX11_isLong_149 (w32_id (by omega)) ?_
        refine r_cv1 dX11_isLong_150 clX11_98 sf429 (by decide) (by decide) rfl (by first | decide | omega) (Nat.le_of_ble_eq_true rfl) ((c_byteAt (by omega) h4)) ⟨Nat.zero_le _, Nat.zero_le _⟩ (fun _ => ?_)
        refine r_cs4 dX11_isLong_153 clX11_135 (by first | decide | omega) (Nat.le_of_ble_eq_true rfl) (c_w4) ⟨Nat.zero_le _, Nat.zero_le _⟩ (fun _ => ?_)
        refine r_lload_n dX11_isLong_156 rfl ?_
        refine r_lcmp dX11_isLong_157 ?_
        refine r_if_ne (tgt := 172) dX11_isLong_158 (by decide) (fun h158 => ?_) (fun h158 => ?_)
        · replace h158 := lc_ne.mp h158
          refine r_iconst dX11_isLong_172 (by decide) ?_
          refine r_zret dX11_isLong_173 rfl (by omega) ?_
          refine ⟨?_, rfl, rfl⟩
          unfold lgO
          first | (rw [if_pos ⟨by omega, by omega, by assumption, by first | (rw [if_pos (by omega)]; assumption) | (rw [if_neg (by omega)]; assumption)⟩]; done) | (rw [if_neg (fun q => by first | omega | exact absurd q.2.2.1 (by assumption) | (have q4 := q.2.2.2; rw [if_pos (by omega)] at q4; exact absurd q4 (by assumption)) | (have q4 := q.2.2.2; rw [if_neg (by omega)] at q4; exact absurd q4 (by assumption)))]; done)
        · replace h158 := lc_eq.mp h158
          refine r_lload dX11_isLong_161 rfl ?_
          refine r_lload_n dX11_isLong_163 rfl ?_
          refine r_lcmp dX11_isLong_164 ?_
          refine r_if_ne (tgt := 172) dX11_isLong_165 (by decide) (fun h165 => ?_) (fun h165 => ?_)
          · replace h165 := lc_ne.mp h165
            refine r_iconst dX11_isLong_172 (by decide) ?_
            refine r_zret dX11_isLong_173 rfl (by omega) ?_
            refine ⟨?_, rfl, rfl⟩
            unfold lgO
            first | (rw [if_pos ⟨by omega, by omega, by assumption, by first | (rw [if_pos (by omega)]; assumption) | (rw [if_neg (by omega)]; assumption)⟩]; done) | (rw [if_neg (fun q => by first | omega | exact absurd q.2.2.1 (by assumption) | (have q4 := q.2.2.2; rw [if_pos (by omega)] at q4; exact absurd q4 (by assumption)) | (have q4 := q.2.2.2; rw [if_neg (by omega)] at q4; exact absurd q4 (by assumption)))]; done)
          · replace h165 := lc_eq.mp h165
            refine r_iconst dX11_isLong_168 (by decide) ?_
            refine r_goto (tgt := 173) dX11_isLong_169 (by decide) ?_
            refine r_zret dX11_isLong_173 rfl (by omega) ?_
            refine ⟨?_, rfl, rfl⟩
            unfold lgO
            first | (rw [if_pos ⟨by omega, by omega, by assumption, by first | (rw [if_pos (by omega)]; assumption) | (rw [if_neg (by omega)]; assumption)⟩]; done) | (rw [if_neg (fun q => by first | omega | exact absurd q.2.2.1 (by assumption) | (have q4 := q.2.2.2; rw [if_pos (by omega)] at q4; exact absurd q4 (by assumption)) | (have q4 := q.2.2.2; rw [if_neg (by omega)] at q4; exact absurd q4 (by assumption)))]; done)
      · refine r_aload_n dX11_isLong_31 rfl (by decide) ?_
        refine r_aload_n dX11_isLong_32 rfl (by decide) ?_
        refine r_gi 8 dX11_isLong_33 flX11_102 sf429 (by decide) (by decide) rfl rfl (by first | assumption | ((repeat (first | (apply rd_ne; · omega) | (apply rd_eq; · omega) | (apply rd_out; · omega) | (apply rd_in; · omega))); first | assumption | rfl)) ?_
        refine r_iconst dX11_isLong_36 (by decide) ?_
        refine r_iadd dX11_isLong_37 (w32_id (by omega)) ?_
        refine r_cv1 dX11_isLong_38 clX11_98 sf429 (by decide) (by decide) rfl (by first | decide | omega) (Nat.le_of_ble_eq_true rfl) ((c_byteAt (by omega) h4)) ⟨Nat.zero_le _, Nat.zero_le _⟩ (fun _ => ?_)
        refine r_aload_n dX11_isLong_41 rfl (by decide) ?_
        refine r_aload_n dX11_isLong_42 rfl (by decide) ?_
        refine r_gi 8 dX11_isLong_43 flX11_102 sf429 (by decide) (by decide) rfl rfl (by first | assumption | ((repeat (first | (apply rd_ne; · omega) | (apply rd_eq; · omega) | (apply rd_out; · omega) | (apply rd_in; · omega))); first | assumption | rfl)) ?_
        refine r_iconst dX11_isLong_46 (by decide) ?_
        refine r_iadd dX11_isLong_47 (w32_id (by omega)) ?_
        refine r_cv1 dX11_isLong_48 clX11_98 sf429 (by decide) (by decide) rfl (by first | decide | omega) (Nat.le_of_ble_eq_true rfl) ((c_byteAt (by omega) h4)) ⟨Nat.zero_le _, Nat.zero_le _⟩ (fun _ => ?_)
        refine r_aload_n dX11_isLong_51 rfl (by decide) ?_
        refine r_aload_n dX11_isLong_52 rfl (by decide) ?_
        refine r_gi 8 dX11_isLong_53 flX11_102 sf429 (by decide) (by decide) rfl rfl (by first | assumption | ((repeat (first | (apply rd_ne; · omega) | (apply rd_eq; · omega) | (apply rd_out; · omega) | (apply rd_in; · omega))); first | assumption | rfl)) ?_
        refine r_bipush dX11_isLong_56 (by decide) (by decide) ?_
        refine r_iadd dX11_isLong_58 (w32_id (by omega)) ?_
        refine r_cv1 dX11_isLong_59 clX11_98 sf429 (by decide) (by decide) rfl (by first | decide | omega) (Nat.le_of_ble_eq_true rfl) ((c_byteAt (by omega) h4)) ⟨Nat.zero_le _, Nat.zero_le _⟩ (fun _ => ?_)
        refine r_cs3 dX11_isLong_62 clX11_131 (by first | decide | omega) (Nat.le_of_ble_eq_true rfl) (c_w3) ⟨Nat.zero_le _, Nat.zero_le _⟩ (fun _ => ?_)
        refine r_goto (tgt := 113) dX11_isLong_65 (by decide) ?_
        refine r_lstore dX11_isLong_113 rfl (by decide) sl6 ?_
        refine r_aload_n dX11_isLong_115 rfl (by decide) ?_
        refine r_aload_n dX11_isLong_116 rfl (by decide) ?_
        refine r_gi 8 dX11_isLong_117 flX11_102 sf429 (by decide) (by decide) rfl rfl (by first | assumption | ((repeat (first | (apply rd_ne; · omega) | (apply rd_eq; · omega) | (apply rd_out; · omega) | (apply rd_in; · omega))); first | assumption | rfl)) ?_
        refine r_cv1 dX11_isLong_120 clX11_98 sf429 (by decide) (by decide) rfl (by first | decide | omega) (Nat.le_of_ble_eq_true rfl) ((c_byteAt (by omega) h4)) ⟨Nat.zero_le _, Nat.zero_le _⟩ (fun _ => ?_)
        refine r_aload_n dX11_isLong_123 rfl (by decide) ?_
        refine r_aload_n dX11_isLong_124 rfl (by decide) ?_
        refine r_gi 8 dX11_isLong_125 flX11_102 sf429 (by decide) (by decide) rfl rfl (by first | assumption | ((repeat (first | (apply rd_ne; · omega) | (apply rd_eq; · omega) | (apply rd_out; · omega) | (apply rd_in; · omega))); first | assumption | rfl)) ?_
        refine r_iconst dX11_isLong_128 (by decide) ?_
        refine r_iadd dX11_isLong_129 (w32_id (by omega)) ?_
        refine r_cv1 dX11_isLong_130 clX11_98 sf429 (by decide) (by decide) rfl (by first | decide | omega) (Nat.le_of_ble_eq_true rfl) ((c_byteAt (by omega) h4)) ⟨Nat.zero_le _, Nat.zero_le _⟩ (fun _ => ?_)
        refine r_aload_n dX11_isLong_133 rfl (by decide) ?_
        refine r_aload_n dX11_isLong_134 rfl (by decide) ?_
        refine r_gi 8 dX11_isLong_135 flX11_102 sf429 (by decide) (by decide) rfl rfl (by first | assumption | ((repeat (first | (apply rd_ne; · omega) | (apply rd_eq; · omega) | (apply rd_out; · omega) | (apply rd_in; · omega))); first | assumption | rfl)) ?_
        refine r_iconst dX11_isLong_138 (by decide) ?_
        refine r_iadd dX11_isLong_139 (w32_id (by omega)) ?_
        refine r_cv1 dX11_isLong_140 clX11_98 sf429 (by decide) (by decide) rfl (by first | decide | omega) (Nat.le_of_ble_eq_true rfl) ((c_byteAt (by omega) h4)) ⟨Nat.zero_le _, Nat.zero_le _⟩ (fun _ => ?_)
        refine r_aload_n dX11_isLong_143 rfl (by decide) ?_
        refine r_aload_n dX11_isLong_144 rfl (by decide) ?_
        refine r_gi 8 dX11_isLong_145 flX11_102 sf429 (by decide) (by decide) rfl rfl (by first | assumption | ((repeat (first | (apply rd_ne; · omega) | (apply rd_eq; · omega) | (apply rd_out; · omega) | (apply rd_in; · omega))); first | assumption | rfl)) ?_
        refine r_iconst dX11_isLong_148 (by decide) ?_
        refine r_iadd dX11_isLong_149 (w32_id (by omega)) ?_
        refine r_cv1 dX11_isLong_150 clX11_98 sf429 (by decide) (by decide) rfl (by first | decide | omega) (Nat.le_of_ble_eq_true rfl) ((c_byteAt (by omega) h4)) ⟨Nat.zero_le _, Nat.zero_le _⟩ (fun _ => ?_)
        refine r_cs4 dX11_isLong_153 clX11_135 (by first | decide | omega) (Nat.le_of_ble_eq_true rfl) (c_w4) ⟨Nat.zero_le _, Nat.zero_le _⟩ (fun _ => ?_)
        refine r_lload_n dX11_isLong_156 rfl ?_
        refine r_lcmp dX11_isLong_157 ?_
        refine r_if_ne (tgt := 172) dX11_isLong_158 (by decide) (fun h158 => ?_) (fun h158 => ?_)
        · replace h158 := lc_ne.mp h158
          refine r_iconst dX11_isLong_172 (by decide) ?_
          refine r_zret dX11_isLong_173 rfl (by omega) ?_
          refine ⟨?_, rfl, rfl⟩
          unfold lgO
          first | (rw [if_pos ⟨by omega, by omega, by assumption, by first | (rw [if_pos (by omega)]; assumption) | (rw [if_neg (by omega)]; assumption)⟩]; done) | (rw [if_neg (fun q => by first | omega | exact absurd q.2.2.1 (by assumption) | (have q4 := q.2.2.2; rw [if_pos (by omega)] at q4; exact absurd q4 (by assumption)) | (have q4 := q.2.2.2; rw [if_neg (by omega)] at q4; exact absurd q4 (by assumption)))]; done)
        · replace h158 := lc_eq.mp h158
          refine r_lload dX11_isLong_161 rfl ?_
          refine r_lload_n dX11_isLong_163 rfl ?_
          refine r_lcmp dX11_isLong_164 ?_
          refine r_if_ne (tgt := 172) dX11_isLong_165 (by decide) (fun h165 => ?_) (fun h165 => ?_)
          · replace h165 := lc_ne.mp h165
            refine r_iconst dX11_isLong_172 (by decide) ?_
            refine r_zret dX11_isLong_173 rfl (by omega) ?_
            refine ⟨?_, rfl, rfl⟩
            unfold lgO
            first | (rw [if_pos ⟨by omega, by omega, by assumption, by first | (rw [if_pos (by omega)]; assumption) | (rw [if_neg (by omega)]; assumption)⟩]; done) | (rw [if_neg (fun q => by first | omega | exact absurd q.2.2.1 (by assumption) | (have q4 := q.2.2.2; rw [if_pos (by omega)] at q4; exact absurd q4 (by assumption)) | (have q4 := q.2.2.2; rw [if_neg (by omega)] at q4; exact absurd q4 (by assumption)))]; done)
          · replace h165 := lc_eq.mp h165
            refine r_iconst dX11_isLong_168 (by decide) ?_
            refine r_goto (tgt := 173) dX11_isLong_169 (by decide) ?_
            refine r_zret dX11_isLong_173 rfl (by omega) ?_
            refine ⟨?_, rfl, rfl⟩
            unfold lgO
            first | (rw [if_pos ⟨by omega, by omega, by assumption, by first | (rw [if_pos (by omega)]; assumption) | (rw [if_neg (by omega)]; assumption)⟩]; done) | (rw [if_neg (fun q => by first | omega | exact absurd q.2.2.1 (by assumption) | (have q4 := q.2.2.2; rw [if_pos (by omega)] at q4; exact absurd q4 (by assumption)) | (have q4 := q.2.2.2; rw [if_neg (by omega)] at q4; exact absurd q4 (by assumption)))]; done)
    · refine r_iconst dX11_isLong_22 (by decide) ?_
      refine r_zret dX11_isLong_23 rfl (by omega) ?_
      refine ⟨?_, rfl, rfl⟩
      unfold lgO
      first | (rw [if_pos ⟨by omega, by omega, by assumption, by first | (rw [if_pos (by omega)]; assumption) | (rw [if_neg (by omega)]; assumption)⟩]; done) | (rw [if_neg (fun q => by first | omega | exact absurd q.2.2.1 (by assumption) | (have q4 := q.2.2.2; rw [if_pos (by omega)] at q4; exact absurd q4 (by assumption)) | (have q4 := q.2.2.2; rw [if_neg (by omega)] at q4; exact absurd q4 (by assumption)))]; done)
