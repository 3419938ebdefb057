/-- which name the letters are, or -1 -/
def naO (kd wd : Int) : Int := if kd ≠ 2 then -1 else if wd = w4L 104 111 117 114 then 0 else if wd = w4L 104 101 97 116 then 1 else if wd = w3L 119 104 111 then 2 else if wd = w4L 115 107 105 110 then 3 else if wd = w4L 121 101 97 114 then 4 else if wd = w5L 100 101 112 116 104 then 5 else if wd = w5L 119 111 114 116 104 then 6 else if wd = w5L 99 111 105 110 115 then 7 else if wd = w4L 116 105 101 115 then 8 else -1
/-- what stands between, or -1 -/
def bwO (kd wd o ic : Int) : Int := if kd = 43 then 6 else if kd = 45 then 7 else if kd = 42 then 8 else if kd = 47 then 9 else if o ≠ 41 then -1 else if ic = 0 then cmO kd else if kd = 2 ∧ wd = w3L 97 110 100 then 21 else if kd = 2 ∧ wd = w2L 111 114 then 22 else -1
/-- what comes behind a part of an open one, or -1 -/
def paO (kd wd o ic : Int) : Int := if o = 40 then (if kd = 41 then 0 else -1) else if o = 41 then (if kd = 2 ∧ wd = w4L 116 104 101 110 ∧ ic ≠ 0 then 42 else -1) else if o = 42 then (if kd = 2 ∧ wd = w4L 101 108 115 101 then 43 else -1) else if o = 43 then (if kd = 2 ∧ wd = w3L 101 110 100 then 0 else -1) else -1
theorem icS_01 {M : Me} : ∀ i : Nat, 0 ≤ icS M i ∧ icS M i ≤ 1 := by
  intro i
  induction i with
  | zero => exact (show (0 : Int) ≤ 0 ∧ (0 : Int) ≤ 1 by decide)
  | succ i ih =>
    unfold icS
    split
    · exact ih
    · exact bi_in
theorem c_nameOf {x y z : Int} {M : Me} : Con kX11_nameOf 4 0 0 [(1, 429)] (Sf x y z) M (Ex (some (0, naO (M 429 9) (M 429 11))) (Sf x y z) M) := by
  refine Con.ofV (al := [(1, 429)]) 0 (by decide) (Nat.le_of_ble_eq_true rfl) rfl ?_
  refine r_aload_n dX11_nameOf_0 rfl (by decide) ?_
  refine r_gi 9 dX11_nameOf_1 flX11_105 sf429 (by decide) (by decide) rfl rfl (by first | assumption | ((repeat (first | (apply rd_ne; · omega) | (apply rd_eq; · omega) | (apply rd_out; · omega) | (apply rd_in; · omega))); first | assumption | rfl)) ?_
  refine r_iconst dX11_nameOf_4 (by decide) ?_
  refine r_icmp_eq (tgt := 10) dX11_nameOf_5 (by decide) (fun h5 => ?_) (fun h5 => ?_)
  · refine r_aload_n dX11_nameOf_10 rfl (by decide) ?_
    refine r_gl 11 dX11_nameOf_11 flX11_118 sf429 (by decide) (by decide) rfl rfl (by first | assumption | ((repeat (first | (apply rd_ne; · omega) | (apply rd_eq; · omega) | (apply rd_out; · omega) | (apply rd_in; · omega))); first | assumption | rfl)) ?_
    refine r_bipush dX11_nameOf_14 (by decide) (by decide) ?_
    refine r_bipush dX11_nameOf_16 (by decide) (by decide) ?_
    refine r_bipush dX11_nameOf_18 (by decide) (by decide) ?_
    refine r_bipush dX11_nameOf_20 (by decide) (by decide) ?_
    refine r_cs4 dX11_nameOf_22 clX11_135 (by first | decide | omega) (Nat.le_of_ble_eq_true rfl) (c_w4) ⟨Nat.zero_le _, Nat.zero_le _⟩ (fun _ => ?_)
    refine r_lcmp dX11_nameOf_25 ?_
    refine r_if_ne (tgt := 31) dX11_nameOf_26 (by decide) (fun h26 => ?_) (fun h26 => ?_)
    · replace h26 := lc_ne.mp h26
      refine r_aload_n dX11_nameOf_31 rfl (by decide) ?_
      refine r_gl 11 dX11_nameOf_32 flX11_118 sf429 (by decide) (by decide) rfl rfl (by first | assumption | ((repeat (first | (apply rd_ne; · omega) | (apply rd_eq; · omega) | (apply rd_out; · omega) | (apply rd_in; · omega))); first | assumption | rfl)) ?_
      refine r_bipush dX11_nameOf_35 (by decide) (by decide) ?_
      refine r_bipush dX11_nameOf_37 (by decide) (by decide) ?_
      refine r_bipush dX11_nameOf_39 (by decide) (by decide) ?_
      refine r_bipush dX11_nameOf_41 (by decide) (by decide) ?_
      refine r_cs4 dX11_nameOf_43 clX11_135 (by first | decide | omega) (Nat.le_of_ble_eq_true rfl) (c_w4) ⟨Nat.zero_le _, Nat.zero_le _⟩ (fun _ => ?_)
      refine r_lcmp dX11_nameOf_46 ?_
      refine r_if_ne (tgt := 52) dX11_nameOf_47 (by decide) (fun h47 => ?_) (fun h47 => ?_)
      · replace h47 := lc_ne.mp h47
        refine r_aload_n dX11_nameOf_52 rfl (by decide) ?_
        refine r_gl 11 dX11_nameOf_53 flX11_118 sf429 (by decide) (by decide) rfl rfl (by first | assumption | ((repeat (first | (apply rd_ne; · omega) | (apply rd_eq; · omega) | (apply rd_out; · omega) | (apply rd_in; · omega))); first | assumption | rfl)) ?_
        refine r_bipush dX11_nameOf_56 (by decide) (by decide) ?_
        refine r_bipush dX11_nameOf_58 (by decide) (by decide) ?_
        refine r_bipush dX11_nameOf_60 (by decide) (by decide) ?_
        refine r_cs3 dX11_nameOf_62 clX11_131 (by first | decide | omega) (Nat.le_of_ble_eq_true rfl) (c_w3) ⟨Nat.zero_le _, Nat.zero_le _⟩ (fun _ => ?_)
        refine r_lcmp dX11_nameOf_65 ?_
        refine r_if_ne (tgt := 71) dX11_nameOf_66 (by decide) (fun h66 => ?_) (fun h66 => ?_)
        · replace h66 := lc_ne.mp h66
          refine r_aload_n dX11_nameOf_71 rfl (by decide) ?_
          refine r_gl 11 dX11_nameOf_72 flX11_118 sf429 (by decide) (by decide) rfl rfl (by first | assumption | ((repeat (first | (apply rd_ne; · omega) | (apply rd_eq; · omega) | (apply rd_out; · omega) | (apply rd_in; · omega))); first | assumption | rfl)) ?_
          refine r_bipush dX11_nameOf_75 (by decide) (by decide) ?_
          refine r_bipush dX11_nameOf_77 (by decide) (by decide) ?_
          refine r_bipush dX11_nameOf_79 (by decide) (by decide) ?_
          refine r_bipush dX11_nameOf_81 (by decide) (by decide) ?_
          refine r_cs4 dX11_nameOf_83 clX11_135 (by first | decide | omega) (Nat.le_of_ble_eq_true rfl) (c_w4) ⟨Nat.zero_le _, Nat.zero_le _⟩ (fun _ => ?_)
          refine r_lcmp dX11_nameOf_86 ?_
          refine r_if_ne (tgt := 92) dX11_nameOf_87 (by decide) (fun h87 => ?_) (fun h87 => ?_)
          · replace h87 := lc_ne.mp h87
            refine r_aload_n dX11_nameOf_92 rfl (by decide) ?_
            refine r_gl 11 dX11_nameOf_93 flX11_118 sf429 (by decide) (by decide) rfl rfl (by first | assumption | ((repeat (first | (apply rd_ne; · omega) | (apply rd_eq; · omega) | (apply rd_out; · omega) | (apply rd_in; · omega))); first | assumption | rfl)) ?_
            refine r_bipush dX11_nameOf_96 (by decide) (by decide) ?_
            refine r_bipush dX11_nameOf_98 (by decide) (by decide) ?_
            refine r_bipush dX11_nameOf_100 (by decide) (by decide) ?_
            refine r_bipush dX11_nameOf_102 (by decide) (by decide) ?_
            refine r_cs4 dX11_nameOf_104 clX11_135 (by first | decide | omega) (Nat.le_of_ble_eq_true rfl) (c_w4) ⟨Nat.zero_le _, Nat.zero_le _⟩ (fun _ => ?_)
            refine r_lcmp dX11_nameOf_107 ?_
            refine r_if_ne (tgt := 113) dX11_nameOf_108 (by decide) (fun h108 => ?_) (fun h108 => ?_)
            · replace h108 := lc_ne.mp h108
              refine r_aload_n dX11_nameOf_113 rfl (by decide) ?_
              refine r_gl 11 dX11_nameOf_114 flX11_118 sf429 (by decide) (by decide) rfl rfl (by first | assumption | ((repeat (first | (apply rd_ne; · omega) | (apply rd_eq; · omega) | (apply rd_out; · omega) | (apply rd_in; · omega))); first | assumption | rfl)) ?_
              refine r_bipush dX11_nameOf_117 (by decide) (by decide) ?_
              refine r_bipush dX11_nameOf_119 (by decide) (by decide) ?_
              refine r_bipush dX11_nameOf_121 (by decide) (by decide) ?_
              refine r_bipush dX11_nameOf_123 (by decide) (by decide) ?_
              refine r_bipush dX11_nameOf_125 (by decide) (by decide) ?_
              refine r_cs5 dX11_nameOf_127 clX11_139 (by first | decide | omega) (Nat.le_of_ble_eq_true rfl) (c_w5) ⟨Nat.zero_le _, Nat.zero_le _⟩ (fun _ => ?_)
              refine r_lcmp dX11_nameOf_130 ?_
              refine r_if_ne (tgt := 136) dX11_nameOf_131 (by decide) (fun h131 => ?_) (fun h131 => ?_)
              · replace h131 := lc_ne.mp h131
                refine r_aload_n dX11_nameOf_136 rfl (by decide) ?_
                refine r_gl 11 dX11_nameOf_137 flX11_118 sf429 (by decide) (by decide) rfl rfl (by first | assumption | ((repeat (first | (apply rd_ne; · omega) | (apply rd_eq; · omega) | (apply rd_out; · omega) | (apply rd_in; · omega))); first | assumption | rfl)) ?_
                refine r_bipush dX11_nameOf_140 (by decide) (by decide) ?_
                refine r_bipush dX11_nameOf_142 (by decide) (by decide) ?_
                refine r_bipush dX11_nameOf_144 (by decide) (by decide) ?_
                refine r_bipush dX11_nameOf_146 (by decide) (by decide) ?_
                refine r_bipush dX11_nameOf_148 (by decide) (by decide) ?_
                refine r_cs5 dX11_nameOf_150 clX11_139 (by first | decide | omega) (Nat.le_of_ble_eq_true rfl) (c_w5) ⟨Nat.zero_le _, Nat.zero_le _⟩ (fun _ => ?_)
                refine r_lcmp dX11_nameOf_153 ?_
                refine r_if_ne (tgt := 160) dX11_nameOf_154 (by decide) (fun h154 => ?_) (fun h154 => ?_)
                · replace h154 := lc_ne.mp h154
                  refine r_aload_n dX11_nameOf_160 rfl (by decide) ?_
                  refine r_gl 11 dX11_nameOf_161 flX11_118 sf429 (by decide) (by decide) rfl rfl (by first | assumption | ((repeat (first | (apply rd_ne; · omega) | (apply rd_eq; · omega) | (apply rd_out; · omega) | (apply rd_in; · omega))); first | assumption | rfl)) ?_
                  refine r_bipush dX11_nameOf_164 (by decide) (by decide) ?_
                  refine r_bipush dX11_nameOf_166 (by decide) (by decide) ?_
                  refine r_bipush dX11_nameOf_168 (by decide) (by decide) ?_
                  refine r_bipush dX11_nameOf_170 (by decide) (by decide) ?_
                  refine r_bipush dX11_nameOf_172 (by decide) (by decide) ?_
                  refine r_cs5 dX11_nameOf_174 clX11_139 (by first | decide | omega) (Nat.le_of_ble_eq_true rfl) (c_w5) ⟨Nat.zero_le _, Nat.zero_le _⟩ (fun _ => ?_)
                  refine r_lcmp dX11_nameOf_177 ?_
                  refine r_if_ne (tgt := 186) dX11_nameOf_178 (by decide) (fun h178 => ?_) (fun h178 => ?_)
                  · replace h178 := lc_ne.mp h178
                    refine r_aload_n dX11_nameOf_186 rfl (by decide) ?_
                    refine r_gl 11 dX11_nameOf_187 flX11_118 sf429 (by decide) (by decide) rfl rfl (by first | assumption | ((repeat (first | (apply rd_ne; · omega) | (apply rd_eq; · omega) | (apply rd_out; · omega) | (apply rd_in; · omega))); first | assumption | rfl)) ?_
                    refine r_bipush dX11_nameOf_190 (by decide) (by decide) ?_
                    refine r_bipush dX11_nameOf_192 (by decide) (by decide) ?_
                    refine r_bipush dX11_nameOf_194 (by decide) (by decide) ?_
                    refine r_bipush dX11_nameOf_196 (by decide) (by decide) ?_
                    refine r_cs4 dX11_nameOf_198 clX11_135 (by first | decide | omega) (Nat.le_of_ble_eq_true rfl) (c_w4) ⟨Nat.zero_le _, Nat.zero_le _⟩ (fun _ => ?_)
                    refine r_lcmp dX11_nameOf_201 ?_
                    refine r_if_ne (tgt := 210) dX11_nameOf_202 (by decide) (fun h202 => ?_) (fun h202 => ?_)
                    · replace h202 := lc_ne.mp h202
                      refine r_iconst dX11_nameOf_210 (by decide) ?_
                      refine r_iret dX11_nameOf_211 rfl ?_
                      refine ⟨?_, rfl, rfl⟩; unfold naO; (repeat' split) <;> first | rfl | contradiction | (exfalso; omega)
                    · replace h202 := lc_eq.mp h202
                      refine r_bipush dX11_nameOf_205 (by decide) (by decide) ?_
                      refine r_goto (tgt := 211) dX11_nameOf_207 (by decide) ?_
                      refine r_iret dX11_nameOf_211 rfl ?_
                      refine ⟨?_, rfl, rfl⟩; unfold naO; (repeat' split) <;> first | rfl | contradiction | (exfalso; omega)
                  · replace h178 := lc_eq.mp h178
                    refine r_bipush dX11_nameOf_181 (by decide) (by decide) ?_
                    refine r_goto (tgt := 211) dX11_nameOf_183 (by decide) ?_
                    refine r_iret dX11_nameOf_211 rfl ?_
                    refine ⟨?_, rfl, rfl⟩; unfold naO; (repeat' split) <;> first | rfl | contradiction | (exfalso; omega)
                · replace h154 := lc_eq.mp h154
                  refine r_bipush dX11_nameOf_157 (by decide) (by decide) ?_
                  refine r_iret dX11_nameOf_159 rfl ?_
                  refine ⟨?_, rfl, rfl⟩; unfold naO; (repeat' split) <;> first | rfl | contradiction | (exfalso; omega)
              · replace h131 := lc_eq.mp h131
                refine r_iconst dX11_nameOf_134 (by decide) ?_
                refine r_iret dX11_nameOf_135 rfl ?_
                refine ⟨?_, rfl, rfl⟩; unfold naO; (repeat' split) <;> first | rfl | contradiction | (exfalso; omega)
            · replace h108 := lc_eq.mp h108
              refine r_iconst dX11_nameOf_111 (by decide) ?_
              refine r_iret dX11_nameOf_112 rfl ?_
              refine ⟨?_, rfl, rfl⟩; unfold naO; (repeat' split) <;> first | rfl | contradiction | (exfalso; omega)
          · replace h87 := lc_eq.mp h87
            refine r_iconst dX11_nameOf_90 (by decide) ?_
            refine r_iret dX11_nameOf_91 rfl ?_
            refine ⟨?_, rfl, rfl⟩; unfold naO; (repeat' split) <;> first | rfl | contradiction | (exfalso; omega)
        · replace h66 := lc_eq.mp h66
          refine r_iconst dX11_nameOf_69 (by decide) ?_
          refine r_iret dX11_nameOf_70 rfl ?_
          refine ⟨?_, rfl, rfl⟩; unfold naO; (repeat' split) <;> first | rfl | contradiction | (exfalso; omega)
      · replace h47 := lc_eq.mp h47
        refine r_iconst dX11_nameOf_50 (by decide) ?_
        refine r_iret dX11_nameOf_51 rfl ?_
        refine ⟨?_, rfl, rfl⟩; unfold naO; (repeat' split) <;> first | rfl | contradiction | (exfalso; omega)
    · replace h26 := lc_eq.mp h26
      refine r_iconst dX11_nameOf_29 (by decide) ?_
      refine r_iret dX11_nameOf_30 rfl ?_
      refine ⟨?_, rfl, rfl⟩; unfold naO; (repeat' split) <;> first | rfl | contradiction | (exfalso; omega)
  · refine r_iconst dX11_nameOf_8 (by decide) ?_
    refine r_iret dX11_nameOf_9 rfl ?_
    refine ⟨?_, rfl, rfl⟩; unfold naO; (repeat' split) <;> first | rfl | contradiction | (exfalso; omega)
theorem m_betweenOf {x y z : Int} {M : Me} {n : Nat} (hn : M 429 16 = (n : Int)) (hn9 : n ≤ 160) : Con kX11_betweenOf 4 0 0 [(1, 429)] (Sf x y z) M (Ex (some (0, bwO (M 429 9) (M 429 11) (opn M n) (icS M n))) (Sf x y z) M) := by
  refine Con.ofV (al := [(1, 429)]) 0 (by decide) (Nat.le_of_ble_eq_true rfl) rfl ?_
  refine r_aload_n dX11_betweenOf_0 rfl (by decide) ?_
  refine r_gi 9 dX11_betweenOf_1 flX11_105 sf429 (by decide) (by decide) rfl rfl (by first | assumption | ((repeat (first | (apply rd_ne; · omega) | (apply rd_eq; · omega) | (apply rd_out; · omega) | (apply rd_in; · omega))); first | assumption | rfl)) ?_
  refine r_bipush dX11_betweenOf_4 (by decide) (by decide) ?_
  refine r_icmp_ne (tgt := 12) dX11_betweenOf_6 (by decide) (fun h6 => ?_) (fun h6 => ?_)
  · refine r_aload_n dX11_betweenOf_12 rfl (by decide) ?_
    refine r_gi 9 dX11_betweenOf_13 flX11_105 sf429 (by decide) (by decide) rfl rfl (by first | assumption | ((repeat (first | (apply rd_ne; · omega) | (apply rd_eq; · omega) | (apply rd_out; · omega) | (apply rd_in; · omega))); first | assumption | rfl)) ?_
    refine r_bipush dX11_betweenOf_16 (by decide) (by decide) ?_
    refine r_icmp_ne (tgt := 24) dX11_betweenOf_18 (by decide) (fun h18 => ?_) (fun h18 => ?_)
    · refine r_aload_n dX11_betweenOf_24 rfl (by decide) ?_
      refine r_gi 9 dX11_betweenOf_25 flX11_105 sf429 (by decide) (by decide) rfl rfl (by first | assumption | ((repeat (first | (apply rd_ne; · omega) | (apply rd_eq; · omega) | (apply rd_out; · omega) | (apply rd_in; · omega))); first | assumption | rfl)) ?_
      refine r_bipush dX11_betweenOf_28 (by decide) (by decide) ?_
      refine r_icmp_ne (tgt := 36) dX11_betweenOf_30 (by decide) (fun h30 => ?_) (fun h30 => ?_)
      · refine r_aload_n dX11_betweenOf_36 rfl (by decide) ?_
        refine r_gi 9 dX11_betweenOf_37 flX11_105 sf429 (by decide) (by decide) rfl rfl (by first | assumption | ((repeat (first | (apply rd_ne; · omega) | (apply rd_eq; · omega) | (apply rd_out; · omega) | (apply rd_in; · omega))); first | assumption | rfl)) ?_
        refine r_bipush dX11_betweenOf_40 (by decide) (by decide) ?_
        refine r_icmp_ne (tgt := 48) dX11_betweenOf_42 (by decide) (fun h42 => ?_) (fun h42 => ?_)
        · refine r_aload_n dX11_betweenOf_48 rfl (by decide) ?_
          refine r_cv0 dX11_betweenOf_49 clX11_169 sf429 (by decide) (by decide) rfl (by first | decide | omega) (Nat.le_of_ble_eq_true rfl) ((c_openNow hn hn9)) ⟨Nat.zero_le _, Nat.zero_le _⟩ (fun _ => ?_)
          refine r_bipush dX11_betweenOf_52 (by decide) (by decide) ?_
          refine r_icmp_eq (tgt := 59) dX11_betweenOf_54 (by decide) (fun h54 => ?_) (fun h54 => ?_)
          · refine r_aload_n dX11_betweenOf_59 rfl (by decide) ?_
            refine r_cv0 dX11_betweenOf_60 clX11_203 sf429 (by decide) (by decide) rfl (by first | decide | omega) (Nat.le_of_ble_eq_true rfl) ((m_isCompared hn hn9)) ⟨Nat.zero_le _, Nat.zero_le _⟩ (fun _ => ?_)
            refine r_if_ne (tgt := 71) dX11_betweenOf_63 (by decide) (fun h63 => ?_) (fun h63 => ?_)
            · try have h63 := bi_1.mp h63
              refine r_aload_n dX11_betweenOf_71 rfl (by decide) ?_
              refine r_bipush dX11_betweenOf_72 (by decide) (by decide) ?_
              refine r_bipush dX11_betweenOf_74 (by decide) (by decide) ?_
              refine r_bipush dX11_betweenOf_76 (by decide) (by decide) ?_
              refine r_cs3 dX11_betweenOf_78 clX11_131 (by first | decide | omega) (Nat.le_of_ble_eq_true rfl) (c_w3) ⟨Nat.zero_le _, Nat.zero_le _⟩ (fun _ => ?_)
              refine r_cv1 dX11_betweenOf_81 clX11_195 sf429 (by decide) (by decide) rfl (by first | decide | omega) (Nat.le_of_ble_eq_true rfl) (c_isWord) ⟨Nat.zero_le _, Nat.zero_le _⟩ (fun _ => ?_)
              refine r_if_eq (tgt := 92) dX11_betweenOf_84 (by decide) (fun h84 => ?_) (fun h84 => ?_)
              · try have h84 := bi_0.mp h84
                refine r_aload_n dX11_betweenOf_92 rfl (by decide) ?_
                refine r_bipush dX11_betweenOf_93 (by decide) (by decide) ?_
                refine r_bipush dX11_betweenOf_95 (by decide) (by decide) ?_
                refine r_cs2 dX11_betweenOf_97 clX11_127 (by first | decide | omega) (Nat.le_of_ble_eq_true rfl) (c_w2) ⟨Nat.zero_le _, Nat.zero_le _⟩ (fun _ => ?_)
                refine r_cv1 dX11_betweenOf_100 clX11_195 sf429 (by decide) (by decide) rfl (by first | decide | omega) (Nat.le_of_ble_eq_true rfl) (c_isWord) ⟨Nat.zero_le _, Nat.zero_le _⟩ (fun _ => ?_)
                refine r_if_eq (tgt := 111) dX11_betweenOf_103 (by decide) (fun h103 => ?_) (fun h103 => ?_)
                · try have h103 := bi_0.mp h103
                  refine r_iconst dX11_betweenOf_111 (by decide) ?_
                  refine r_iret dX11_betweenOf_112 rfl ?_
                  refine ⟨?_, rfl, rfl⟩; unfold bwO; (repeat' split) <;> first | rfl | contradiction | (exfalso; omega)
                · try have h103 := bi_1.mp h103
                  refine r_bipush dX11_betweenOf_106 (by decide) (by decide) ?_
                  refine r_goto (tgt := 112) dX11_betweenOf_108 (by decide) ?_
                  refine r_iret dX11_betweenOf_112 rfl ?_
                  refine ⟨?_, rfl, rfl⟩; unfold bwO; (repeat' split) <;> first | rfl | contradiction | (exfalso; omega)
              · try have h84 := bi_1.mp h84
                refine r_bipush dX11_betweenOf_87 (by decide) (by decide) ?_
                refine r_goto (tgt := 112) dX11_betweenOf_89 (by decide) ?_
                refine r_iret dX11_betweenOf_112 rfl ?_
                refine ⟨?_, rfl, rfl⟩; unfold bwO; (repeat' split) <;> first | rfl | contradiction | (exfalso; omega)
            · try have h63 := bi_0.mp h63
              refine r_aload_n dX11_betweenOf_66 rfl (by decide) ?_
              refine r_cv0 dX11_betweenOf_67 clX11_206 sf429 (by decide) (by decide) rfl (by first | decide | omega) (Nat.le_of_ble_eq_true rfl) (c_compareOf) ⟨Nat.zero_le _, Nat.zero_le _⟩ (fun _ => ?_)
              refine r_iret dX11_betweenOf_70 rfl ?_
              refine ⟨?_, rfl, rfl⟩; unfold bwO; (repeat' split) <;> first | rfl | contradiction | (exfalso; omega)
          · refine r_iconst dX11_betweenOf_57 (by decide) ?_
            refine r_iret dX11_betweenOf_58 rfl ?_
            refine ⟨?_, rfl, rfl⟩; unfold bwO; (repeat' split) <;> first | rfl | contradiction | (exfalso; omega)
        · refine r_bipush dX11_betweenOf_45 (by decide) (by decide) ?_
          refine r_iret dX11_betweenOf_47 rfl ?_
          refine ⟨?_, rfl, rfl⟩; unfold bwO; (repeat' split) <;> first | rfl | contradiction | (exfalso; omega)
      · refine r_bipush dX11_betweenOf_33 (by decide) (by decide) ?_
        refine r_iret dX11_betweenOf_35 rfl ?_
        refine ⟨?_, rfl, rfl⟩; unfold bwO; (repeat' split) <;> first | rfl | contradiction | (exfalso; omega)
    · refine r_bipush dX11_betweenOf_21 (by decide) (by decide) ?_
      refine r_iret dX11_betweenOf_23 rfl ?_
      refine ⟨?_, rfl, rfl⟩; unfold bwO; (repeat' split) <;> first | rfl | contradiction | (exfalso; omega)
  · refine r_bipush dX11_betweenOf_9 (by decide) (by decide) ?_
    refine r_iret dX11_betweenOf_11 rfl ?_
    refine ⟨?_, rfl, rfl⟩; unfold bwO; (repeat' split) <;> first | rfl | contradiction | (exfalso; omega)
theorem m_partOf {x y z : Int} {M : Me} {n : Nat} (hn : M 429 16 = (n : Int)) (hn9 : n ≤ 160) {o : Int} : Con kX11_partOf 4 0 0 [(1, 429), (0, o)] (Sf x y z) M (Ex (some (0, paO (M 429 9) (M 429 11) o (icS M n))) (Sf x y z) M) := by
  refine Con.ofV (al := [(1, 429), (0, o)]) 0 (by decide) (Nat.le_of_ble_eq_true rfl) rfl ?_
  refine r_iload_n dX11_partOf_0 rfl ?_
  rcases (show (o < 40 ∨ 43 < o) ∨ o = 40 ∨ o = 41 ∨ o = 42 ∨ o = 43 by omega) with hsw | hsw | hsw | hsw | hsw
  · refine r_tabOut (tgt := 126) dX11_partOf_1 hsw (by decide) ?_
    refine r_iconst dX11_partOf_126 (by decide) ?_
    refine r_iret dX11_partOf_127 rfl ?_
    refine ⟨?_, rfl, rfl⟩; unfold paO; (repeat' split) <;> first | rfl | contradiction | (exfalso; omega)
  · refine r_tabEq (tgt := 32) dX11_partOf_1 hsw (by decide) (by decide) rfl (by decide) ?_
    refine r_aload_n dX11_partOf_32 rfl (by decide) ?_
    refine r_gi 9 dX11_partOf_33 flX11_105 sf429 (by decide) (by decide) rfl rfl (by first | assumption | ((repeat (first | (apply rd_ne; · omega) | (apply rd_eq; · omega) | (apply rd_out; · omega) | (apply rd_in; · omega))); first | assumption | rfl)) ?_
    refine r_bipush dX11_partOf_36 (by decide) (by decide) ?_
    refine r_icmp_ne (tgt := 45) dX11_partOf_38 (by decide) (fun h38 => ?_) (fun h38 => ?_)
    · refine r_iconst dX11_partOf_45 (by decide) ?_
      refine r_iret dX11_partOf_46 rfl ?_
      refine ⟨?_, rfl, rfl⟩; unfold paO; (repeat' split) <;> first | rfl | contradiction | (exfalso; omega)
    · refine r_iconst dX11_partOf_41 (by decide) ?_
      refine r_goto (tgt := 46) dX11_partOf_42 (by decide) ?_
      refine r_iret dX11_partOf_46 rfl ?_
      refine ⟨?_, rfl, rfl⟩; unfold paO; (repeat' split) <;> first | rfl | contradiction | (exfalso; omega)
  · refine r_tabEq (tgt := 47) dX11_partOf_1 hsw (by decide) (by decide) rfl (by decide) ?_
    refine r_aload_n dX11_partOf_47 rfl (by decide) ?_
    refine r_bipush dX11_partOf_48 (by decide) (by decide) ?_
    refine r_bipush dX11_partOf_50 (by decide) (by decide) ?_
    refine r_bipush dX11_partOf_52 (by decide) (by decide) ?_
    refine r_bipush dX11_partOf_54 (by decide) (by decide) ?_
    refine r_cs4 dX11_partOf_56 clX11_135 (by first | decide | omega) (Nat.le_of_ble_eq_true rfl) (c_w4) ⟨Nat.zero_le _, Nat.zero_le _⟩ (fun _ => ?_)
    refine r_cv1 dX11_partOf_59 clX11_195 sf429 (by decide) (by decide) rfl (by first | decide | omega) (Nat.le_of_ble_eq_true rfl) (c_isWord) ⟨Nat.zero_le _, Nat.zero_le _⟩ (fun _ => ?_)
    refine r_if_eq (tgt := 77) dX11_partOf_62 (by decide) (fun h62 => ?_) (fun h62 => ?_)
    · try have h62 := bi_0.mp h62
      refine r_iconst dX11_partOf_77 (by decide) ?_
      refine r_iret dX11_partOf_78 rfl ?_
      refine ⟨?_, rfl, rfl⟩; unfold paO; (repeat' split) <;> first | rfl | contradiction | (exfalso; omega)
    · try have h62 := bi_1.mp h62
      refine r_aload_n dX11_partOf_65 rfl (by decide) ?_
      refine r_cv0 dX11_partOf_66 clX11_203 sf429 (by decide) (by decide) rfl (by first | decide | omega) (Nat.le_of_ble_eq_true rfl) ((m_isCompared hn hn9)) ⟨Nat.zero_le _, Nat.zero_le _⟩ (fun _ => ?_)
      refine r_if_eq (tgt := 77) dX11_partOf_69 (by decide) (fun h69 => ?_) (fun h69 => ?_)
      · try have h69 := bi_0.mp h69
        refine r_iconst dX11_partOf_77 (by decide) ?_
        refine r_iret dX11_partOf_78 rfl ?_
        refine ⟨?_, rfl, rfl⟩; unfold paO; (repeat' split) <;> first | rfl | contradiction | (exfalso; omega)
      · try have h69 := bi_1.mp h69
        refine r_bipush dX11_partOf_72 (by decide) (by decide) ?_
        refine r_goto (tgt := 78) dX11_partOf_74 (by decide) ?_
        refine r_iret dX11_partOf_78 rfl ?_
        refine ⟨?_, rfl, rfl⟩; unfold paO; (repeat' split) <;> first | rfl | contradiction | (exfalso; omega)
  · refine r_tabEq (tgt := 79) dX11_partOf_1 hsw (by decide) (by decide) rfl (by decide) ?_
    refine r_aload_n dX11_partOf_79 rfl (by decide) ?_
    refine r_bipush dX11_partOf_80 (by decide) (by decide) ?_
    refine r_bipush dX11_partOf_82 (by decide) (by decide) ?_
    refine r_bipush dX11_partOf_84 (by decide) (by decide) ?_
    refine r_bipush dX11_partOf_86 (by decide) (by decide) ?_
    refine r_cs4 dX11_partOf_88 clX11_135 (by first | decide | omega) (Nat.le_of_ble_eq_true rfl) (c_w4) ⟨Nat.zero_le _, Nat.zero_le _⟩ (fun _ => ?_)
    refine r_cv1 dX11_partOf_91 clX11_195 sf429 (by decide) (by decide) rfl (by first | decide | omega) (Nat.le_of_ble_eq_true rfl) (c_isWord) ⟨Nat.zero_le _, Nat.zero_le _⟩ (fun _ => ?_)
    refine r_if_eq (tgt := 102) dX11_partOf_94 (by decide) (fun h94 => ?_) (fun h94 => ?_)
    · try have h94 := bi_0.mp h94
      refine r_iconst dX11_partOf_102 (by decide) ?_
      refine r_iret dX11_partOf_103 rfl ?_
      refine ⟨?_, rfl, rfl⟩; unfold paO; (repeat' split) <;> first | rfl | contradiction | (exfalso; omega)
    · try have h94 := bi_1.mp h94
      refine r_bipush dX11_partOf_97 (by decide) (by decide) ?_
      refine r_goto (tgt := 103) dX11_partOf_99 (by decide) ?_
      refine r_iret dX11_partOf_103 rfl ?_
      refine ⟨?_, rfl, rfl⟩; unfold paO; (repeat' split) <;> first | rfl | contradiction | (exfalso; omega)
  · refine r_tabEq (tgt := 104) dX11_partOf_1 hsw (by decide) (by decide) rfl (by decide) ?_
    refine r_aload_n dX11_partOf_104 rfl (by decide) ?_
    refine r_bipush dX11_partOf_105 (by decide) (by decide) ?_
    refine r_bipush dX11_partOf_107 (by decide) (by decide) ?_
    refine r_bipush dX11_partOf_109 (by decide) (by decide) ?_
    refine r_cs3 dX11_partOf_111 clX11_131 (by first | decide | omega) (Nat.le_of_ble_eq_true rfl) (c_w3) ⟨Nat.zero_le _, Nat.zero_le _⟩ (fun _ => ?_)
    refine r_cv1 dX11_partOf_114 clX11_195 sf429 (by decide) (by decide) rfl (by first | decide | omega) (Nat.le_of_ble_eq_true rfl) (c_isWord) ⟨Nat.zero_le _, Nat.zero_le _⟩ (fun _ => ?_)
    refine r_if_eq (tgt := 124) dX11_partOf_117 (by decide) (fun h117 => ?_) (fun h117 => ?_)
    · try have h117 := bi_0.mp h117
      refine r_iconst dX11_partOf_124 (by decide) ?_
      refine r_iret dX11_partOf_125 rfl ?_
      refine ⟨?_, rfl, rfl⟩; unfold paO; (repeat' split) <;> first | rfl | contradiction | (exfalso; omega)
    · try have h117 := bi_1.mp h117
      refine r_iconst dX11_partOf_120 (by decide) ?_
      refine r_goto (tgt := 125) dX11_partOf_121 (by decide) ?_
      refine r_iret dX11_partOf_125 rfl ?_
      refine ⟨?_, rfl, rfl⟩; unfold paO; (repeat' split) <;> first | rfl | contradiction | (exfalso; omega)
