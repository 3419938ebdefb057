/-- the sort of clause that begins here, or -1 -/
def soO (M : Me) : Int := if lgO M (w4L 112 114 101 115) (w3L 115 101 115) 7 ≠ 0 then 0 else if lgO M (w4L 115 99 111 114) (w4L 99 104 101 115) 8 ≠ 0 then 1 else if M 429 9 = 2 ∧ M 429 11 = w5L 112 114 105 99 101 then 2 else if M 429 9 = 2 ∧ M 429 11 = w6L 112 101 114 115 111 110 then 3 else if M 429 9 = 2 ∧ M 429 11 = w6L 99 114 101 97 115 101 then 4 else if M 429 9 = 2 ∧ M 429 11 = w3L 116 105 101 then 5 else if M 429 9 = 2 ∧ M 429 11 = w4L 104 101 97 116 then 6 else if M 429 9 = 2 ∧ M 429 11 = w5L 112 114 101 115 115 then 7 else if lgO M (w4L 112 97 116 116) (w3L 101 114 110) 7 ≠ 0 then 8 else if M 429 9 = 2 ∧ M 429 11 = w4L 100 97 109 112 then 9 else if M 429 9 = 2 ∧ M 429 11 = w4L 104 111 117 114 then 10 else -1
set_option maxHeartbeats 1000000 in
theorem m_sortOf {x y z : Int} {M : Me} (h4 : M 429 4 ≤ 300) (h7 : 0 ≤ M 429 7 ∧ M 429 7 ≤ 300) (h8 : 0 ≤ M 429 8 ∧ M 429 8 ≤ 300) : Con kX11_sortOf 5 0 0 [(1, 429)] (Sf x y z) M (Ex (some (0, soO M)) (Sf x y z) M) := by
  refine Con.ofV (al := [(1, 429)]) 0 (by decide) (Nat.le_of_ble_eq_true rfl) rfl ?_
  refine r_aload_n dX11_sortOf_0 rfl (by decide) ?_
  refine r_bipush dX11_sortOf_1 (by decide) (by decide) ?_
  refine r_bipush dX11_sortOf_3 (by decide) (by decide) ?_
  refine r_bipush dX11_sortOf_5 (by decide) (by decide) ?_
  refine r_bipush dX11_sortOf_7 (by decide) (by decide) ?_
  refine r_cs4 dX11_sortOf_9 clX11_135 (by first | decide | omega) (Nat.le_of_ble_eq_true rfl) (c_w4) ⟨Nat.zero_le _, Nat.zero_le _⟩ (fun _ => ?_)
  refine r_bipush dX11_sortOf_12 (by decide) (by decide) ?_
  refine r_bipush dX11_sortOf_14 (by decide) (by decide) ?_
  refine r_bipush dX11_sortOf_16 (by decide) (by decide) ?_
  refine r_cs3 dX11_sortOf_18 clX11_131 (by first | decide | omega) (Nat.le_of_ble_eq_true rfl) (c_w3) ⟨Nat.zero_le _, Nat.zero_le _⟩ (fun _ => ?_)
  refine r_bipush dX11_sortOf_21 (by decide) (by decide) ?_
  refine r_cv3 dX11_sortOf_23 clX11_242 sf429 (by decide) (by decide) rfl (by first | decide | omega) (Nat.le_of_ble_eq_true rfl) ((m_isLong h4 h7 h8)) ⟨Nat.zero_le _, Nat.zero_le _⟩ (fun _ => ?_)
  refine r_if_eq (tgt := 31) dX11_sortOf_26 (by decide) (fun h26 => ?_) (fun h26 => ?_)
  · try have h26 := bi_0.mp h26
    refine r_aload_n dX11_sortOf_31 rfl (by decide) ?_
    refine r_bipush dX11_sortOf_32 (by decide) (by decide) ?_
    refine r_bipush dX11_sortOf_34 (by decide) (by decide) ?_
    refine r_bipush dX11_sortOf_36 (by decide) (by decide) ?_
    refine r_bipush dX11_sortOf_38 (by decide) (by decide) ?_
    refine r_cs4 dX11_sortOf_40 clX11_135 (by first | decide | omega) (Nat.le_of_ble_eq_true rfl) (c_w4) ⟨Nat.zero_le _, Nat.zero_le _⟩ (fun _ => ?_)
    refine r_bipush dX11_sortOf_43 (by decide) (by decide) ?_
    refine r_bipush dX11_sortOf_45 (by decide) (by decide) ?_
    refine r_bipush dX11_sortOf_47 (by decide) (by decide) ?_
    refine r_bipush dX11_sortOf_49 (by decide) (by decide) ?_
    refine r_cs4 dX11_sortOf_51 clX11_135 (by first | decide | omega) (Nat.le_of_ble_eq_true rfl) (c_w4) ⟨Nat.zero_le _, Nat.zero_le _⟩ (fun _ => ?_)
    refine r_bipush dX11_sortOf_54 (by decide) (by decide) ?_
    refine r_cv3 dX11_sortOf_56 clX11_242 sf429 (by decide) (by decide) rfl (by first | decide | omega) (Nat.le_of_ble_eq_true rfl) ((m_isLong h4 h7 h8)) ⟨Nat.zero_le _, Nat.zero_le _⟩ (fun _ => ?_)
    refine r_if_eq (tgt := 64) dX11_sortOf_59 (by decide) (fun h59 => ?_) (fun h59 => ?_)
    · try have h59 := bi_0.mp h59
      refine r_aload_n dX11_sortOf_64 rfl (by decide) ?_
      refine r_bipush dX11_sortOf_65 (by decide) (by decide) ?_
      refine r_bipush dX11_sortOf_67 (by decide) (by decide) ?_
      refine r_bipush dX11_sortOf_69 (by decide) (by decide) ?_
      refine r_bipush dX11_sortOf_71 (by decide) (by decide) ?_
      refine r_bipush dX11_sortOf_73 (by decide) (by decide) ?_
      refine r_cs5 dX11_sortOf_75 clX11_139 (by first | decide | omega) (Nat.le_of_ble_eq_true rfl) (c_w5) ⟨Nat.zero_le _, Nat.zero_le _⟩ (fun _ => ?_)
      refine r_cv1 dX11_sortOf_78 clX11_195 sf429 (by decide) (by decide) rfl (by first | decide | omega) (Nat.le_of_ble_eq_true rfl) (c_isWord) ⟨Nat.zero_le _, Nat.zero_le _⟩ (fun _ => ?_)
      refine r_if_eq (tgt := 86) dX11_sortOf_81 (by decide) (fun h81 => ?_) (fun h81 => ?_)
      · try have h81 := bi_0.mp h81
        refine r_aload_n dX11_sortOf_86 rfl (by decide) ?_
        refine r_bipush dX11_sortOf_87 (by decide) (by decide) ?_
        refine r_bipush dX11_sortOf_89 (by decide) (by decide) ?_
        refine r_bipush dX11_sortOf_91 (by decide) (by decide) ?_
        refine r_bipush dX11_sortOf_93 (by decide) (by decide) ?_
        refine r_bipush dX11_sortOf_95 (by decide) (by decide) ?_
        refine r_bipush dX11_sortOf_97 (by decide) (by decide) ?_
        refine r_cs6 dX11_sortOf_99 clX11_191 (by first | decide | omega) (Nat.le_of_ble_eq_true rfl) (c_w6) ⟨Nat.zero_le _, Nat.zero_le _⟩ (fun _ => ?_)
        refine r_cv1 dX11_sortOf_102 clX11_195 sf429 (by decide) (by decide) rfl (by first | decide | omega) (Nat.le_of_ble_eq_true rfl) (c_isWord) ⟨Nat.zero_le _, Nat.zero_le _⟩ (fun _ => ?_)
        refine r_if_eq (tgt := 110) dX11_sortOf_105 (by decide) (fun h105 => ?_) (fun h105 => ?_)
        · try have h105 := bi_0.mp h105
          refine r_aload_n dX11_sortOf_110 rfl (by decide) ?_
          refine r_bipush dX11_sortOf_111 (by decide) (by decide) ?_
          refine r_bipush dX11_sortOf_113 (by decide) (by decide) ?_
          refine r_bipush dX11_sortOf_115 (by decide) (by decide) ?_
          refine r_bipush dX11_sortOf_117 (by decide) (by decide) ?_
          refine r_bipush dX11_sortOf_119 (by decide) (by decide) ?_
          refine r_bipush dX11_sortOf_121 (by decide) (by decide) ?_
          refine r_cs6 dX11_sortOf_123 clX11_191 (by first | decide | omega) (Nat.le_of_ble_eq_true rfl) (c_w6) ⟨Nat.zero_le _, Nat.zero_le _⟩ (fun _ => ?_)
          refine r_cv1 dX11_sortOf_126 clX11_195 sf429 (by decide) (by decide) rfl (by first | decide | omega) (Nat.le_of_ble_eq_true rfl) (c_isWord) ⟨Nat.zero_le _, Nat.zero_le _⟩ (fun _ => ?_)
          refine r_if_eq (tgt := 134) dX11_sortOf_129 (by decide) (fun h129 => ?_) (fun h129 => ?_)
          · try have h129 := bi_0.mp h129
            refine r_aload_n dX11_sortOf_134 rfl (by decide) ?_
            refine r_bipush dX11_sortOf_135 (by decide) (by decide) ?_
            refine r_bipush dX11_sortOf_137 (by decide) (by decide) ?_
            refine r_bipush dX11_sortOf_139 (by decide) (by decide) ?_
            refine r_cs3 dX11_sortOf_141 clX11_131 (by first | decide | omega) (Nat.le_of_ble_eq_true rfl) (c_w3) ⟨Nat.zero_le _, Nat.zero_le _⟩ (fun _ => ?_)
            refine r_cv1 dX11_sortOf_144 clX11_195 sf429 (by decide) (by decide) rfl (by first | decide | omega) (Nat.le_of_ble_eq_true rfl) (c_isWord) ⟨Nat.zero_le _, Nat.zero_le _⟩ (fun _ => ?_)
            refine r_if_eq (tgt := 152) dX11_sortOf_147 (by decide) (fun h147 => ?_) (fun h147 => ?_)
            · try have h147 := bi_0.mp h147
              refine r_aload_n dX11_sortOf_152 rfl (by decide) ?_
              refine r_bipush dX11_sortOf_153 (by decide) (by decide) ?_
              refine r_bipush dX11_sortOf_155 (by decide) (by decide) ?_
              refine r_bipush dX11_sortOf_157 (by decide) (by decide) ?_
              refine r_bipush dX11_sortOf_159 (by decide) (by decide) ?_
              refine r_cs4 dX11_sortOf_161 clX11_135 (by first | decide | omega) (Nat.le_of_ble_eq_true rfl) (c_w4) ⟨Nat.zero_le _, Nat.zero_le _⟩ (fun _ => ?_)
              refine r_cv1 dX11_sortOf_164 clX11_195 sf429 (by decide) (by decide) rfl (by first | decide | omega) (Nat.le_of_ble_eq_true rfl) (c_isWord) ⟨Nat.zero_le _, Nat.zero_le _⟩ (fun _ => ?_)
              refine r_if_eq (tgt := 173) dX11_sortOf_167 (by decide) (fun h167 => ?_) (fun h167 => ?_)
              · try have h167 := bi_0.mp h167
                refine r_aload_n dX11_sortOf_173 rfl (by decide) ?_
                refine r_bipush dX11_sortOf_174 (by decide) (by decide) ?_
                refine r_bipush dX11_sortOf_176 (by decide) (by decide) ?_
                refine r_bipush dX11_sortOf_178 (by decide) (by decide) ?_
                refine r_bipush dX11_sortOf_180 (by decide) (by decide) ?_
                refine r_bipush dX11_sortOf_182 (by decide) (by decide) ?_
                refine r_cs5 dX11_sortOf_184 clX11_139 (by first | decide | omega) (Nat.le_of_ble_eq_true rfl) (c_w5) ⟨Nat.zero_le _, Nat.zero_le _⟩ (fun _ => ?_)
                refine r_cv1 dX11_sortOf_187 clX11_195 sf429 (by decide) (by decide) rfl (by first | decide | omega) (Nat.le_of_ble_eq_true rfl) (c_isWord) ⟨Nat.zero_le _, Nat.zero_le _⟩ (fun _ => ?_)
                refine r_if_eq (tgt := 196) dX11_sortOf_190 (by decide) (fun h190 => ?_) (fun h190 => ?_)
                · try have h190 := bi_0.mp h190
                  refine r_aload_n dX11_sortOf_196 rfl (by decide) ?_
                  refine r_bipush dX11_sortOf_197 (by decide) (by decide) ?_
                  refine r_bipush dX11_sortOf_199 (by decide) (by decide) ?_
                  refine r_bipush dX11_sortOf_201 (by decide) (by decide) ?_
                  refine r_bipush dX11_sortOf_203 (by decide) (by decide) ?_
                  refine r_cs4 dX11_sortOf_205 clX11_135 (by first | decide | omega) (Nat.le_of_ble_eq_true rfl) (c_w4) ⟨Nat.zero_le _, Nat.zero_le _⟩ (fun _ => ?_)
                  refine r_bipush dX11_sortOf_208 (by decide) (by decide) ?_
                  refine r_bipush dX11_sortOf_210 (by decide) (by decide) ?_
                  refine r_bipush dX11_sortOf_212 (by decide) (by decide) ?_
                  refine r_cs3 dX11_sortOf_214 clX11_131 (by first | decide | omega) (Nat.le_of_ble_eq_true rfl) (c_w3) ⟨Nat.zero_le _, Nat.zero_le _⟩ (fun _ => ?_)
                  refine r_bipush dX11_sortOf_217 (by decide) (by decide) ?_
                  refine r_cv3 dX11_sortOf_219 clX11_242 sf429 (by decide) (by decide) rfl (by first | decide | omega) (Nat.le_of_ble_eq_true rfl) ((m_isLong h4 h7 h8)) ⟨Nat.zero_le _, Nat.zero_le _⟩ (fun _ => ?_)
                  refine r_if_eq (tgt := 228) dX11_sortOf_222 (by decide) (fun h222 => ?_) (fun h222 => ?_)
                  · try have h222 := bi_0.mp h222
                    refine r_aload_n dX11_sortOf_228 rfl (by decide) ?_
                    refine r_bipush dX11_sortOf_229 (by decide) (by decide) ?_
                    refine r_bipush dX11_sortOf_231 (by decide) (by decide) ?_
                    refine r_bipush dX11_sortOf_233 (by decide) (by decide) ?_
                    refine r_bipush dX11_sortOf_235 (by decide) (by decide) ?_
                    refine r_cs4 dX11_sortOf_237 clX11_135 (by first | decide | omega) (Nat.le_of_ble_eq_true rfl) (c_w4) ⟨Nat.zero_le _, Nat.zero_le _⟩ (fun _ => ?_)
                    refine r_cv1 dX11_sortOf_240 clX11_195 sf429 (by decide) (by decide) rfl (by first | decide | omega) (Nat.le_of_ble_eq_true rfl) (c_isWord) ⟨Nat.zero_le _, Nat.zero_le _⟩ (fun _ => ?_)
                    refine r_if_eq (tgt := 251) dX11_sortOf_243 (by decide) (fun h243 => ?_) (fun h243 => ?_)
                    · try have h243 := bi_0.mp h243
                      refine r_aload_n dX11_sortOf_251 rfl (by decide) ?_
                      refine r_bipush dX11_sortOf_252 (by decide) (by decide) ?_
                      refine r_bipush dX11_sortOf_254 (by decide) (by decide) ?_
                      refine r_bipush dX11_sortOf_256 (by decide) (by decide) ?_
                      refine r_bipush dX11_sortOf_258 (by decide) (by decide) ?_
                      refine r_cs4 dX11_sortOf_260 clX11_135 (by first | decide | omega) (Nat.le_of_ble_eq_true rfl) (c_w4) ⟨Nat.zero_le _, Nat.zero_le _⟩ (fun _ => ?_)
                      refine r_cv1 dX11_sortOf_263 clX11_195 sf429 (by decide) (by decide) rfl (by first | decide | omega) (Nat.le_of_ble_eq_true rfl) (c_isWord) ⟨Nat.zero_le _, Nat.zero_le _⟩ (fun _ => ?_)
                      refine r_if_eq (tgt := 274) dX11_sortOf_266 (by decide) (fun h266 => ?_) (fun h266 => ?_)
                      · try have h266 := bi_0.mp h266
                        refine r_iconst dX11_sortOf_274 (by decide) ?_
                        refine r_iret dX11_sortOf_275 rfl ?_
                        refine ⟨?_, rfl, rfl⟩; unfold soO; (repeat' split) <;> first | rfl | contradiction | (exfalso; omega)
                      · try have h266 := bi_1.mp h266
                        refine r_bipush dX11_sortOf_269 (by decide) (by decide) ?_
                        refine r_goto (tgt := 275) dX11_sortOf_271 (by decide) ?_
                        refine r_iret dX11_sortOf_275 rfl ?_
                        refine ⟨?_, rfl, rfl⟩; unfold soO; (repeat' split) <;> first | rfl | contradiction | (exfalso; omega)
                    · try have h243 := bi_1.mp h243
                      refine r_bipush dX11_sortOf_246 (by decide) (by decide) ?_
                      refine r_goto (tgt := 275) dX11_sortOf_248 (by decide) ?_
                      refine r_iret dX11_sortOf_275 rfl ?_
                      refine ⟨?_, rfl, rfl⟩; unfold soO; (repeat' split) <;> first | rfl | contradiction | (exfalso; omega)
                  · try have h222 := bi_1.mp h222
                    refine r_bipush dX11_sortOf_225 (by decide) (by decide) ?_
                    refine r_iret dX11_sortOf_227 rfl ?_
                    refine ⟨?_, rfl, rfl⟩; unfold soO; (repeat' split) <;> first | rfl | contradiction | (exfalso; omega)
                · try have h190 := bi_1.mp h190
                  refine r_bipush dX11_sortOf_193 (by decide) (by decide) ?_
                  refine r_iret dX11_sortOf_195 rfl ?_
                  refine ⟨?_, rfl, rfl⟩; unfold soO; (repeat' split) <;> first | rfl | contradiction | (exfalso; omega)
              · try have h167 := bi_1.mp h167
                refine r_bipush dX11_sortOf_170 (by decide) (by decide) ?_
                refine r_iret dX11_sortOf_172 rfl ?_
                refine ⟨?_, rfl, rfl⟩; unfold soO; (repeat' split) <;> first | rfl | contradiction | (exfalso; omega)
            · try have h147 := bi_1.mp h147
              refine r_iconst dX11_sortOf_150 (by decide) ?_
              refine r_iret dX11_sortOf_151 rfl ?_
              refine ⟨?_, rfl, rfl⟩; unfold soO; (repeat' split) <;> first | rfl | contradiction | (exfalso; omega)
          · try have h129 := bi_1.mp h129
            refine r_iconst dX11_sortOf_132 (by decide) ?_
            refine r_iret dX11_sortOf_133 rfl ?_
            refine ⟨?_, rfl, rfl⟩; unfold soO; (repeat' split) <;> first | rfl | contradiction | (exfalso; omega)
        · try have h105 := bi_1.mp h105
          refine r_iconst dX11_sortOf_108 (by decide) ?_
          refine r_iret dX11_sortOf_109 rfl ?_
          refine ⟨?_, rfl, rfl⟩; unfold soO; (repeat' split) <;> first | rfl | contradiction | (exfalso; omega)
      · try have h81 := bi_1.mp h81
        refine r_iconst dX11_sortOf_84 (by decide) ?_
        refine r_iret dX11_sortOf_85 rfl ?_
        refine ⟨?_, rfl, rfl⟩; unfold soO; (repeat' split) <;> first | rfl | contradiction | (exfalso; omega)
    · try have h59 := bi_1.mp h59
      refine r_iconst dX11_sortOf_62 (by decide) ?_
      refine r_iret dX11_sortOf_63 rfl ?_
      refine ⟨?_, rfl, rfl⟩; unfold soO; (repeat' split) <;> first | rfl | contradiction | (exfalso; omega)
  · try have h26 := bi_1.mp h26
    refine r_iconst dX11_sortOf_29 (by decide) ?_
    refine r_iret dX11_sortOf_30 rfl ?_
    refine ⟨?_, rfl, rfl⟩; unfold soO; (repeat' split) <;> first | rfl | contradiction | (exfalso; omega)
/-- how many of the pile settling leaves -/
def stN (M : Me) (r : Int) : Nat → Nat
  | 0 => 0
  | i + 1 => if r ≤ rnk (M 434 i) then stN M r i else i + 1
theorem stN_le {M : Me} {r : Int} : ∀ i : Nat, stN M r i ≤ i := by
  intro i
  induction i with
  | zero => exact Nat.le_refl 0
  | succ i ih => unfold stN; split <;> omega
theorem stN_c {M N : Me} {r : Int} : ∀ i : Nat, (∀ j : Nat, j < i → N 434 j = M 434 j) → stN N r i = stN M r i := by
  intro i
  induction i with
  | zero => intro _; rfl
  | succ i ih =>
    intro h
    unfold stN
    rw [h i (by omega), ih (fun j hj => h j (by omega))]
theorem stl_f {M : Me} {r : Int} {i : Nat} (h : ¬ r ≤ rnk (M 434 i)) : stl M r (i + 1) = M := if_neg h
theorem stl_all {r : Int} : ∀ (i : Nat) (M : Me), M 429 16 = (i : Int) → stl M r i 429 16 = (stN M r i : Int) ∧ stl M r i 429 13 + (stN M r i : Int) = M 429 13 + i ∧ (M 429 17 - (i - stN M r i : Int) ≤ stl M r i 429 17 ∧ stl M r i 429 17 ≤ M 429 17) ∧ ∀ a j : Int, a ≠ 432 → ¬ (a = 429 ∧ (j = 13 ∨ j = 16 ∨ j = 17)) → stl M r i a j = M a j := by
  intro i
  induction i with
  | zero => intro M h; exact ⟨h, by rw [show stN M r 0 = 0 from rfl]; exact rfl, ⟨by rw [show stN M r 0 = 0 from rfl]; exact (show M 429 17 - _ ≤ M 429 17 by omega), Int.le_refl _⟩, fun a j _ _ => rfl⟩
  | succ i ih =>
    intro M h
    by_cases hr : r ≤ rnk (M 434 i)
    · have hb : stN M r (i + 1) = stN M r i := if_pos hr
      have hle := stN_le (M := M) (r := r) i
      generalize hN : (if rnk (M 434 i) = 7 ∨ M 434 i = 20 then up (tpA M i) 429 17 (tpA M i 429 17 - 1) else tpA M i) = N
      rw [stl_t hr hN, hb]
      have e16 : N 429 16 = (i : Int) := by
        rw [← hN]; split
        · rw [up_ne (by omega), tpA_16]
        · exact tpA_16
      have e13 : N 429 13 = M 429 13 + 1 := by
        rw [← hN]; split
        · rw [up_ne (by omega), tpA_13]
        · exact tpA_13
      have e17 : M 429 17 - 1 ≤ N 429 17 ∧ N 429 17 ≤ M 429 17 := by
        rw [← hN]; split
        · rw [up_eq ⟨rfl, rfl⟩, tpA_o (by omega)]; omega
        · rw [tpA_o (by omega)]; omega
      have eo : ∀ a j : Int, a ≠ 432 → ¬ (a = 429 ∧ (j = 13 ∨ j = 16 ∨ j = 17)) → N a j = M a j := by
        intro a j h1 h2
        rw [← hN]; split
        · rw [up_ne (by omega), tpA_o (by omega)]
        · exact tpA_o (by omega)
      have ec : stN N r i = stN M r i := stN_c i (fun j _ => eo 434 j (by decide) (by omega))
      obtain ⟨a1, a2, a3, a4⟩ := ih N e16
      rw [ec] at a1 a2 a3
      exact ⟨a1, by omega, by omega, fun a j h1 h2 => (a4 a j h1 h2).trans (eo a j h1 h2)⟩
    · have hb : stN M r (i + 1) = i + 1 := if_neg hr
      rw [stl_f hr, hb]
      exact ⟨h, rfl, ⟨by omega, Int.le_refl _⟩, fun a j _ _ => rfl⟩
theorem stl_o {M : Me} {r : Int} {i : Nat} (h : M 429 16 = (i : Int)) {a j : Int} (h1 : a ≠ 432) (h2 : ¬ (a = 429 ∧ (j = 13 ∨ j = 16 ∨ j = 17))) : stl M r i a j = M a j := (stl_all i M h).2.2.2 a j h1 h2
theorem oaS_st {M : Me} {r : Int} (hr : 1 ≤ r) : ∀ i : Nat, oaS M i < (stN M r i : Int) := by
  intro i
  induction i with
  | zero => exact (show (-1 : Int) < ((0 : Nat) : Int) by decide)
  | succ i ih =>
    have hb := oaS_b (M := M) i
    unfold stN
    by_cases h : 40 ≤ M 434 i
    · have h0 : rnk (M 434 i) = 0 := if_pos h
      rw [oaS_t h, if_neg (by omega)]; omega
    · rw [oaS_f h]
      split
      · exact ih
      · omega
def opV (M : Me) : Int := if M 429 17 = 8 then 3 else 0
def oqM (M : Me) (v : Int) (n : Nat) : Me := if M 429 17 = 8 then M else nxT (opM M v) n
theorem m_openedE {x y z : Int} {M : Me} {v : Int} {n : Nat} (h4 : M 429 4 = (n : Int)) (hn : n ≤ 300) (h7 : 0 ≤ M 429 7 ∧ M 429 7 ≤ n) (h16 : 0 ≤ M 429 16 ∧ M 429 16 < 160) (h17 : -1000 ≤ M 429 17 ∧ M 429 17 ≤ 1000) : Con kX11_opened 2 0 0 [(1, 429), (0, v)] (Sf x y z) M (Ex (some (0, opV M)) (Sf x y z) (oqM M v n)) :=
  (m_opened h4 hn h7 h16 h17).mono (fun v9 S9 M9 h => by
    obtain ⟨h1, ⟨h2, h3, h5⟩ | ⟨h2, h3, h5⟩⟩ := h
    · exact ⟨by unfold opV; rw [if_pos h2]; exact h3, h1, by unfold oqM; rw [if_pos h2]; exact h5⟩
    · exact ⟨by unfold opV; rw [if_neg h2]; exact h3, h1, by unfold oqM; rw [if_neg h2]; exact h5⟩)
abbrev okN (v s : Int) : Prop := v < 7 ∨ (v = 7 ∧ s = 2) ∨ (v ≠ 7 ∧ s ≠ 0)
/-- whether something is asked from here on -/
abbrev ahP (M : Me) (m : Nat) : Prop := opn M m = 41 ∧ (40 ≤ M 434 ((m : Int) - 1) ∨ (1 ≤ rnk (M 434 ((m : Int) - 1)) ∧ rnk (M 434 ((m : Int) - 1)) ≤ 3))
/-- what is opened here, or 0 -/
def bgO (M : Me) (m : Nat) : Int := if M 429 9 = 40 then 40 else if M 429 9 = 45 then 5 else if M 429 9 = 2 ∧ M 429 11 = w6L 116 117 114 110 101 100 then 2 else if M 429 9 = 2 ∧ M 429 11 = w4L 100 101 101 112 then 3 else if M 429 9 = 2 ∧ M 429 11 = w2L 105 102 then 41 else if (M 429 9 = 2 ∧ M 429 11 = w3L 110 111 116) ∧ ahP M m then 20 else 0
def naM (M : Me) : Int := naO (M 429 9) (M 429 11)
def lfM (M : Me) (n m : Nat) (k v : Int) : Me := stl (up (nxT (emA M k v) n) 429 18 1) 7 m
def bgV (M : Me) (m : Nat) : Int := if M 429 9 = 1 ∧ 9999 < M 429 10 then 2 else if 0 ≤ naM M ∧ ¬ okN (naM M) (M 429 14) then 5 else if M 429 9 = 1 ∨ 0 ≤ naM M then 0 else if bgO M m = 0 then 1 else opV M
def bgM (M : Me) (n m : Nat) : Me := if M 429 9 = 1 ∧ 9999 < M 429 10 then M else if 0 ≤ naM M ∧ ¬ okN (naM M) (M 429 14) then M else if M 429 9 = 1 then lfM M n m 0 (M 429 10) else if 0 ≤ naM M then lfM M n m 1 (naM M) else if bgO M m = 0 then M else oqM M (bgO M m) n
theorem bg_2 {M : Me} {n m : Nat} (h : M 429 9 = 1 ∧ 9999 < M 429 10) : bgV M m = 2 ∧ bgM M n m = M := ⟨by unfold bgV; rw [if_pos h], by unfold bgM; rw [if_pos h]⟩
theorem bg_5 {M : Me} {n m : Nat} (h : ¬ (M 429 9 = 1 ∧ 9999 < M 429 10)) (k : 0 ≤ naM M ∧ ¬ okN (naM M) (M 429 14)) : bgV M m = 5 ∧ bgM M n m = M := ⟨by unfold bgV; rw [if_neg h, if_pos k], by unfold bgM; rw [if_neg h, if_pos k]⟩
theorem bg_n {M : Me} {n m : Nat} (h : ¬ (M 429 9 = 1 ∧ 9999 < M 429 10)) (k : ¬ (0 ≤ naM M ∧ ¬ okN (naM M) (M 429 14))) (h1 : M 429 9 = 1) : bgV M m = 0 ∧ bgM M n m = lfM M n m 0 (M 429 10) := ⟨by unfold bgV; rw [if_neg h, if_neg k, if_pos (Or.inl h1)], by unfold bgM; rw [if_neg h, if_neg k, if_pos h1]⟩
theorem bg_a {M : Me} {n m : Nat} (k : ¬ (0 ≤ naM M ∧ ¬ okN (naM M) (M 429 14))) (h1 : M 429 9 ≠ 1) (h2 : 0 ≤ naM M) : bgV M m = 0 ∧ bgM M n m = lfM M n m 1 (naM M) := ⟨by unfold bgV; rw [if_neg (fun q => h1 q.1), if_neg k, if_pos (Or.inr h2)], by unfold bgM; rw [if_neg (fun q => h1 q.1), if_neg k, if_neg h1, if_pos h2]⟩
theorem bg_1 {M : Me} {n m : Nat} (h1 : M 429 9 ≠ 1) (h2 : naM M < 0) (h3 : bgO M m = 0) : bgV M m = 1 ∧ bgM M n m = M := ⟨by unfold bgV; rw [if_neg (fun q => h1 q.1), if_neg (by omega), if_neg (by omega), if_pos h3], by unfold bgM; rw [if_neg (fun q => h1 q.1), if_neg (by omega), if_neg h1, if_neg (by omega), if_pos h3]⟩
theorem bg_o {M : Me} {n m : Nat} (h1 : M 429 9 ≠ 1) (h2 : naM M < 0) {v : Int} (h3 : bgO M m = v) (h4 : v ≠ 0) : bgV M m = opV M ∧ bgM M n m = oqM M v n := by
  subst h3
  exact ⟨by unfold bgV; rw [if_neg (fun q => h1 q.1), if_neg (by omega), if_neg (by omega), if_neg h4], by unfold bgM; rw [if_neg (fun q => h1 q.1), if_neg (by omega), if_neg h1, if_neg (by omega), if_neg h4]⟩
theorem bgL {M M' : Me} {n m : Nat} {v : Int} {S : Sh} (h : bgV M m = v ∧ bgM M n m = M') : Ex (some (0, bgV M m)) S (bgM M n m) (some (0, v)) S M' := by
  rw [h.1, h.2]; exact Ex.rf
set_option maxHeartbeats 1000000 in
theorem m_beginOne {x y z : Int} {M : Me} {n m : Nat} (h4 : M 429 4 = (n : Int)) (hn : n ≤ 300) (h7 : 0 ≤ M 429 7 ∧ M 429 7 ≤ n) (h12 : 0 ≤ M 429 12 ∧ M 429 12 ≤ 2115) (h13 : 0 ≤ M 429 13 ∧ M 429 13 + m ≤ 300) (h16 : M 429 16 = (m : Int)) (hm : m < 159) (h17 : 0 ≤ M 429 17 ∧ M 429 17 ≤ 8) : Con kX11_beginOne 6 0 0 [(1, 429)] (Sf x y z) M (Ex (some (0, bgV M m)) (Sf x y z) (bgM M n m)) := by
  refine Con.ofV (al := [(1, 429), (9, 0)]) 1 (by decide) (Nat.le_of_ble_eq_true rfl) rfl ?_
  refine r_aload_n dX11_beginOne_0 rfl (by decide) ?_
  refine r_gi 9 dX11_beginOne_1 flX11_105 sf429 (by decide) (by decide) rfl rfl (by first | assumption | ((repeat (first | (apply rd_ne; · omega) | (apply rd_eq; · omega) | (apply rd_out; · omega) | (apply rd_in; · omega))); first | assumption | rfl)) ?_
  refine r_iconst dX11_beginOne_4 (by decide) ?_
  refine r_icmp_ne (tgt := 20) dX11_beginOne_5 (by decide) (fun h5 => ?_) (fun h5 => ?_)
  · refine r_aload_n dX11_beginOne_20 rfl (by decide) ?_
    refine r_cv0 dX11_beginOne_21 clX11_175 sf429 (by decide) (by decide) rfl (by first | decide | omega) (Nat.le_of_ble_eq_true rfl) (c_nameOf) ⟨Nat.zero_le _, Nat.zero_le _⟩ (fun _ => ?_)
    refine r_istore_n dX11_beginOne_24 rfl (by decide) st1 ?_
    refine r_iload_n dX11_beginOne_25 rfl ?_
    refine r_if_lt (tgt := 39) dX11_beginOne_26 (by decide) (fun h26 => ?_) (fun h26 => ?_)
    · refine r_aload_n dX11_beginOne_39 rfl (by decide) ?_
      refine r_gi 9 dX11_beginOne_40 flX11_105 sf429 (by decide) (by decide) rfl rfl (by first | assumption | ((repeat (first | (apply rd_ne; · omega) | (apply rd_eq; · omega) | (apply rd_out; · omega) | (apply rd_in; · omega))); first | assumption | rfl)) ?_
      refine r_iconst dX11_beginOne_43 (by decide) ?_
      refine r_icmp_eq (tgt := 51) dX11_beginOne_44 (by decide) (fun h44 => by exfalso; omega) (fun h44 => ?_)
      refine r_iload_n dX11_beginOne_47 rfl ?_
      refine r_if_lt (tgt := 101) dX11_beginOne_48 (by decide) (fun h48 => ?_) (fun h48 => by exfalso; omega)
      refine r_aload_n dX11_beginOne_101 rfl (by decide) ?_
      refine r_gi 9 dX11_beginOne_102 flX11_105 sf429 (by decide) (by decide) rfl rfl (by first | assumption | ((repeat (first | (apply rd_ne; · omega) | (apply rd_eq; · omega) | (apply rd_out; · omega) | (apply rd_in; · omega))); first | assumption | rfl)) ?_
      refine r_bipush dX11_beginOne_105 (by decide) (by decide) ?_
      refine r_icmp_ne (tgt := 117) dX11_beginOne_107 (by decide) (fun h107 => ?_) (fun h107 => ?_)
      · refine r_aload_n dX11_beginOne_117 rfl (by decide) ?_
        refine r_gi 9 dX11_beginOne_118 flX11_105 sf429 (by decide) (by decide) rfl rfl (by first | assumption | ((repeat (first | (apply rd_ne; · omega) | (apply rd_eq; · omega) | (apply rd_out; · omega) | (apply rd_in; · omega))); first | assumption | rfl)) ?_
        refine r_bipush dX11_beginOne_121 (by decide) (by decide) ?_
        refine r_icmp_ne (tgt := 132) dX11_beginOne_123 (by decide) (fun h123 => ?_) (fun h123 => ?_)
        · refine r_aload_n dX11_beginOne_132 rfl (by decide) ?_
          refine r_bipush dX11_beginOne_133 (by decide) (by decide) ?_
          refine r_bipush dX11_beginOne_135 (by decide) (by decide) ?_
          refine r_bipush dX11_beginOne_137 (by decide) (by decide) ?_
          refine r_bipush dX11_beginOne_139 (by decide) (by decide) ?_
          refine r_bipush dX11_beginOne_141 (by decide) (by decide) ?_
          refine r_bipush dX11_beginOne_143 (by decide) (by decide) ?_
          refine r_cs6 dX11_beginOne_145 clX11_191 (by first | decide | omega) (Nat.le_of_ble_eq_true rfl) (c_w6) ⟨Nat.zero_le _, Nat.zero_le _⟩ (fun _ => ?_)
          refine r_cv1 dX11_beginOne_148 clX11_195 sf429 (by decide) (by decide) rfl (by first | decide | omega) (Nat.le_of_ble_eq_true rfl) (c_isWord) ⟨Nat.zero_le _, Nat.zero_le _⟩ (fun _ => ?_)
          refine r_if_eq (tgt := 160) dX11_beginOne_151 (by decide) (fun h151 => ?_) (fun h151 => ?_)
          · try have h151 := bi_0.mp h151
            refine r_aload_n dX11_beginOne_160 rfl (by decide) ?_
            refine r_bipush dX11_beginOne_161 (by decide) (by decide) ?_
            refine r_bipush dX11_beginOne_163 (by decide) (by decide) ?_
            refine r_bipush dX11_beginOne_165 (by decide) (by decide) ?_
            refine r_bipush dX11_beginOne_167 (by decide) (by decide) ?_
            refine r_cs4 dX11_beginOne_169 clX11_135 (by first | decide | omega) (Nat.le_of_ble_eq_true rfl) (c_w4) ⟨Nat.zero_le _, Nat.zero_le _⟩ (fun _ => ?_)
            refine r_cv1 dX11_beginOne_172 clX11_195 sf429 (by decide) (by decide) rfl (by first | decide | omega) (Nat.le_of_ble_eq_true rfl) (c_isWord) ⟨Nat.zero_le _, Nat.zero_le _⟩ (fun _ => ?_)
            refine r_if_eq (tgt := 184) dX11_beginOne_175 (by decide) (fun h175 => ?_) (fun h175 => ?_)
            · try have h175 := bi_0.mp h175
              refine r_aload_n dX11_beginOne_184 rfl (by decide) ?_
              refine r_bipush dX11_beginOne_185 (by decide) (by decide) ?_
              refine r_bipush dX11_beginOne_187 (by decide) (by decide) ?_
              refine r_cs2 dX11_beginOne_189 clX11_127 (by first | decide | omega) (Nat.le_of_ble_eq_true rfl) (c_w2) ⟨Nat.zero_le _, Nat.zero_le _⟩ (fun _ => ?_)
              refine r_cv1 dX11_beginOne_192 clX11_195 sf429 (by decide) (by decide) rfl (by first | decide | omega) (Nat.le_of_ble_eq_true rfl) (c_isWord) ⟨Nat.zero_le _, Nat.zero_le _⟩ (fun _ => ?_)
              refine r_if_eq (tgt := 205) dX11_beginOne_195 (by decide) (fun h195 => ?_) (fun h195 => ?_)
              · try have h195 := bi_0.mp h195
                refine r_aload_n dX11_beginOne_205 rfl (by decide) ?_
                refine r_bipush dX11_beginOne_206 (by decide) (by decide) ?_
                refine r_bipush dX11_beginOne_208 (by decide) (by decide) ?_
                refine r_bipush dX11_beginOne_210 (by decide) (by decide) ?_
                refine r_cs3 dX11_beginOne_212 clX11_131 (by first | decide | omega) (Nat.le_of_ble_eq_true rfl) (c_w3) ⟨Nat.zero_le _, Nat.zero_le _⟩ (fun _ => ?_)
                refine r_cv1 dX11_beginOne_215 clX11_195 sf429 (by decide) (by decide) rfl (by first | decide | omega) (Nat.le_of_ble_eq_true rfl) (c_isWord) ⟨Nat.zero_le _, Nat.zero_le _⟩ (fun _ => ?_)
                refine r_if_eq (tgt := 237) dX11_beginOne_218 (by decide) (fun h218 => ?_) (fun h218 => ?_)
                · try have h218 := bi_0.mp h218
                  refine r_iconst dX11_beginOne_237 (by decide) ?_
                  refine r_iret dX11_beginOne_238 rfl ?_
                  first | exact bgL (bg_o (v := 20) (by omega) (show naM M < 0 by unfold naM; omega) (by unfold bgO; rw [if_neg (by first | omega | (unfold ahP; omega)), if_neg (by first | omega | (unfold ahP; omega)), if_neg (by first | omega | (unfold ahP; omega)), if_neg (by first | omega | (unfold ahP; omega)), if_neg (by first | omega | (unfold ahP; omega)), if_pos (by first | omega | (unfold ahP; omega))]) (by decide)) | exact bgL (bg_1 (by omega) (show naM M < 0 by unfold naM; omega) (by unfold bgO; rw [if_neg (by first | omega | (unfold ahP; omega)), if_neg (by first | omega | (unfold ahP; omega)), if_neg (by first | omega | (unfold ahP; omega)), if_neg (by first | omega | (unfold ahP; omega)), if_neg (by first | omega | (unfold ahP; omega)), if_neg (by first | omega | (unfold ahP; omega))]))
                · try have h218 := bi_1.mp h218
                  refine r_aload_n dX11_beginOne_221 rfl (by decide) ?_
                  refine r_cv0 dX11_beginOne_222 clX11_199 sf429 (by decide) (by decide) rfl (by first | decide | omega) (Nat.le_of_ble_eq_true rfl) ((m_isAskAhead h16 (by omega))) ⟨Nat.zero_le _, Nat.zero_le _⟩ (fun _ => ?_)
                  refine r_if_eq (tgt := 237) dX11_beginOne_225 (by decide) (fun h225 => ?_) (fun h225 => ?_)
                  · try have h225 := bi_0.mp h225
                    refine r_iconst dX11_beginOne_237 (by decide) ?_
                    refine r_iret dX11_beginOne_238 rfl ?_
                    first | exact bgL (bg_o (v := 20) (by omega) (show naM M < 0 by unfold naM; omega) (by unfold bgO; rw [if_neg (by first | omega | (unfold ahP; omega)), if_neg (by first | omega | (unfold ahP; omega)), if_neg (by first | omega | (unfold ahP; omega)), if_neg (by first | omega | (unfold ahP; omega)), if_neg (by first | omega | (unfold ahP; omega)), if_pos (by first | omega | (unfold ahP; omega))]) (by decide)) | exact bgL (bg_1 (by omega) (show naM M < 0 by unfold naM; omega) (by unfold bgO; rw [if_neg (by first | omega | (unfold ahP; omega)), if_neg (by first | omega | (unfold ahP; omega)), if_neg (by first | omega | (unfold ahP; omega)), if_neg (by first | omega | (unfold ahP; omega)), if_neg (by first | omega | (unfold ahP; omega)), if_neg (by first | omega | (unfold ahP; omega))]))
                  · try have h225 := bi_1.mp h225
                    refine r_aload_n dX11_beginOne_228 rfl (by decide) ?_
                    refine r_bipush dX11_beginOne_229 (by decide) (by decide) ?_
                    refine r_cv1 dX11_beginOne_231 clX11_188 sf429 (by decide) (by decide) rfl (by first | decide | omega) (Nat.le_of_ble_eq_true rfl) ((m_openedE h4 hn h7 (by omega) (by omega))) ⟨Nat.zero_le _, Nat.zero_le _⟩ (fun _ => ?_)
                    refine r_goto (tgt := 238) dX11_beginOne_234 (by decide) ?_
                    refine r_iret dX11_beginOne_238 rfl ?_
                    first | exact bgL (bg_o (v := 20) (by omega) (show naM M < 0 by unfold naM; omega) (by unfold bgO; rw [if_neg (by first | omega | (unfold ahP; omega)), if_neg (by first | omega | (unfold ahP; omega)), if_neg (by first | omega | (unfold ahP; omega)), if_neg (by first | omega | (unfold ahP; omega)), if_neg (by first | omega | (unfold ahP; omega)), if_pos (by first | omega | (unfold ahP; omega))]) (by decide)) | exact bgL (bg_1 (by omega) (show naM M < 0 by unfold naM; omega) (by unfold bgO; rw [if_neg (by first | omega | (unfold ahP; omega)), if_neg (by first | omega | (unfold ahP; omega)), if_neg (by first | omega | (unfold ahP; omega)), if_neg (by first | omega | (unfold ahP; omega)), if_neg (by first | omega | (unfold ahP; omega)), if_neg (by first | omega | (unfold ahP; omega))]))
              · try have h195 := bi_1.mp h195
                refine r_aload_n dX11_beginOne_198 rfl (by decide) ?_
                refine r_bipush dX11_beginOne_199 (by decide) (by decide) ?_
                refine r_cv1 dX11_beginOne_201 clX11_188 sf429 (by decide) (by decide) rfl (by first | decide | omega) (Nat.le_of_ble_eq_true rfl) ((m_openedE h4 hn h7 (by omega) (by omega))) ⟨Nat.zero_le _, Nat.zero_le _⟩ (fun _ => ?_)
                refine r_iret dX11_beginOne_204 rfl ?_
                exact bgL (bg_o (v := 41) (by omega) (show naM M < 0 by unfold naM; omega) (by unfold bgO; rw [if_neg (by first | omega | (unfold ahP; omega)), if_neg (by first | omega | (unfold ahP; omega)), if_neg (by first | omega | (unfold ahP; omega)), if_neg (by first | omega | (unfold ahP; omega)), if_pos (by first | omega | (unfold ahP; omega))]) (by decide))
            · try have h175 := bi_1.mp h175
              refine r_aload_n dX11_beginOne_178 rfl (by decide) ?_
              refine r_iconst dX11_beginOne_179 (by decide) ?_
              refine r_cv1 dX11_beginOne_180 clX11_188 sf429 (by decide) (by decide) rfl (by first | decide | omega) (Nat.le_of_ble_eq_true rfl) ((m_openedE h4 hn h7 (by omega) (by omega))) ⟨Nat.zero_le _, Nat.zero_le _⟩ (fun _ => ?_)
              refine r_iret dX11_beginOne_183 rfl ?_
              exact bgL (bg_o (v := 3) (by omega) (show naM M < 0 by unfold naM; omega) (by unfold bgO; rw [if_neg (by first | omega | (unfold ahP; omega)), if_neg (by first | omega | (unfold ahP; omega)), if_neg (by first | omega | (unfold ahP; omega)), if_pos (by first | omega | (unfold ahP; omega))]) (by decide))
          · try have h151 := bi_1.mp h151
            refine r_aload_n dX11_beginOne_154 rfl (by decide) ?_
            refine r_iconst dX11_beginOne_155 (by decide) ?_
            refine r_cv1 dX11_beginOne_156 clX11_188 sf429 (by decide) (by decide) rfl (by first | decide | omega) (Nat.le_of_ble_eq_true rfl) ((m_openedE h4 hn h7 (by omega) (by omega))) ⟨Nat.zero_le _, Nat.zero_le _⟩ (fun _ => ?_)
            refine r_iret dX11_beginOne_159 rfl ?_
            exact bgL (bg_o (v := 2) (by omega) (show naM M < 0 by unfold naM; omega) (by unfold bgO; rw [if_neg (by first | omega | (unfold ahP; omega)), if_neg (by first | omega | (unfold ahP; omega)), if_pos (by first | omega | (unfold ahP; omega))]) (by decide))
        · refine r_aload_n dX11_beginOne_126 rfl (by decide) ?_
          refine r_iconst dX11_beginOne_127 (by decide) ?_
          refine r_cv1 dX11_beginOne_128 clX11_188 sf429 (by decide) (by decide) rfl (by first | decide | omega) (Nat.le_of_ble_eq_true rfl) ((m_openedE h4 hn h7 (by omega) (by omega))) ⟨Nat.zero_le _, Nat.zero_le _⟩ (fun _ => ?_)
          refine r_iret dX11_beginOne_131 rfl ?_
          exact bgL (bg_o (v := 5) (by omega) (show naM M < 0 by unfold naM; omega) (by unfold bgO; rw [if_neg (by first | omega | (unfold ahP; omega)), if_pos (by first | omega | (unfold ahP; omega))]) (by decide))
      · refine r_aload_n dX11_beginOne_110 rfl (by decide) ?_
        refine r_bipush dX11_beginOne_111 (by decide) (by decide) ?_
        refine r_cv1 dX11_beginOne_113 clX11_188 sf429 (by decide) (by decide) rfl (by first | decide | omega) (Nat.le_of_ble_eq_true rfl) ((m_openedE h4 hn h7 (by omega) (by omega))) ⟨Nat.zero_le _, Nat.zero_le _⟩ (fun _ => ?_)
        refine r_iret dX11_beginOne_116 rfl ?_
        exact bgL (bg_o (v := 40) (by omega) (show naM M < 0 by unfold naM; omega) (by unfold bgO; rw [if_pos (by first | omega | (unfold ahP; omega))]) (by decide))
    · refine r_aload_n dX11_beginOne_29 rfl (by decide) ?_
      refine r_iload_n dX11_beginOne_30 rfl ?_
      refine r_cv1 dX11_beginOne_31 clX11_178 sf429 (by decide) (by decide) rfl (by first | decide | omega) (Nat.le_of_ble_eq_true rfl) (c_isOf) ⟨Nat.zero_le _, Nat.zero_le _⟩ (fun _ => ?_)
      refine r_if_ne (tgt := 39) dX11_beginOne_34 (by decide) (fun h34 => ?_) (fun h34 => ?_)
      · try have h34 := bi_1.mp h34
        refine r_aload_n dX11_beginOne_39 rfl (by decide) ?_
        refine r_gi 9 dX11_beginOne_40 flX11_105 sf429 (by decide) (by decide) rfl rfl (by first | assumption | ((repeat (first | (apply rd_ne; · omega) | (apply rd_eq; · omega) | (apply rd_out; · omega) | (apply rd_in; · omega))); first | assumption | rfl)) ?_
        refine r_iconst dX11_beginOne_43 (by decide) ?_
        refine r_icmp_eq (tgt := 51) dX11_beginOne_44 (by decide) (fun h44 => by exfalso; omega) (fun h44 => ?_)
        refine r_iload_n dX11_beginOne_47 rfl ?_
        refine r_if_lt (tgt := 101) dX11_beginOne_48 (by decide) (fun h48 => by exfalso; omega) (fun h48 => ?_)
        refine r_aload_n dX11_beginOne_51 rfl (by decide) ?_
        refine r_aload_n dX11_beginOne_52 rfl (by decide) ?_
        refine r_gi 9 dX11_beginOne_53 flX11_105 sf429 (by decide) (by decide) rfl rfl (by first | assumption | ((repeat (first | (apply rd_ne; · omega) | (apply rd_eq; · omega) | (apply rd_out; · omega) | (apply rd_in; · omega))); first | assumption | rfl)) ?_
        refine r_iconst dX11_beginOne_56 (by decide) ?_
        refine r_icmp_ne (tgt := 64) dX11_beginOne_57 (by decide) (fun h57 => ?_) (fun h57 => by exfalso; omega)
        refine r_iconst dX11_beginOne_64 (by decide) ?_
        refine r_aload_n dX11_beginOne_65 rfl (by decide) ?_
        refine r_gi 9 dX11_beginOne_66 flX11_105 sf429 (by decide) (by decide) rfl rfl (by first | assumption | ((repeat (first | (apply rd_ne; · omega) | (apply rd_eq; · omega) | (apply rd_out; · omega) | (apply rd_in; · omega))); first | assumption | rfl)) ?_
        refine r_iconst dX11_beginOne_69 (by decide) ?_
        refine r_icmp_ne (tgt := 80) dX11_beginOne_70 (by decide) (fun h70 => ?_) (fun h70 => by exfalso; omega)
        refine r_iload_n dX11_beginOne_80 rfl ?_
        refine r_cw2 dX11_beginOne_81 clX11_158 sf429 (by decide) (by decide) rfl (by first | decide | omega) (Nat.le_of_ble_eq_true rfl) ((c_emit h12 (by omega))) ⟨Nat.zero_le _, Nat.zero_le _⟩ ?_
        refine r_aload_n dX11_beginOne_84 rfl (by decide) ?_
        refine r_cw0 dX11_beginOne_85 clX11_172 sf429 (by decide) (by decide) rfl (by first | decide | omega) (Nat.le_of_ble_eq_true rfl) ((m_nextToken ((emA_o (by omega)).trans h4) hn (by rw [emA_o (by omega)]; exact h7))) ⟨Nat.zero_le _, Nat.zero_le _⟩ ?_
        refine r_aload_n dX11_beginOne_88 rfl (by decide) ?_
        refine r_iconst dX11_beginOne_89 (by decide) ?_
        refine r_pz 18 dX11_beginOne_90 fpX11_181 sf429 (by decide) (by decide) rfl (by omega) rfl ?_
        refine r_aload_n dX11_beginOne_93 rfl (by decide) ?_
        refine r_bipush dX11_beginOne_94 (by decide) (by decide) ?_
        refine r_cw1 dX11_beginOne_96 clX11_185 sf429 (by decide) (by decide) rfl (by first | decide | omega) (Nat.le_of_ble_eq_true rfl) ((m_settle (i := m) ((up_ne (by omega)).trans ((nxT_o (by omega)).trans ((emA_o (by omega)).trans h16))) (by rw [up_ne (by omega), nxT_o (by omega), emA_o (by omega)]; exact h12) (by rw [up_ne (by omega), nxT_o (by omega), emA_13]; omega) (by rw [up_ne (by omega), nxT_o (by omega), emA_o (by omega)]; omega))) ⟨Nat.zero_le _, Nat.zero_le _⟩ ?_
        refine r_iconst dX11_beginOne_99 (by decide) ?_
        refine r_iret dX11_beginOne_100 rfl ?_
        first | exact bgL (bg_n (by omega) (by unfold naM okN; omega) (by omega)) | exact bgL (bg_a (by unfold naM okN; omega) (by omega) (by unfold naM; omega))
      · try have h34 := bi_0.mp h34
        refine r_iconst dX11_beginOne_37 (by decide) ?_
        refine r_iret dX11_beginOne_38 rfl ?_
        exact bgL (bg_5 (by omega) (by unfold naM okN; omega))
  · refine r_aload_n dX11_beginOne_8 rfl (by decide) ?_
    refine r_gi 10 dX11_beginOne_9 flX11_111 sf429 (by decide) (by decide) rfl rfl (by first | assumption | ((repeat (first | (apply rd_ne; · omega) | (apply rd_eq; · omega) | (apply rd_out; · omega) | (apply rd_in; · omega))); first | assumption | rfl)) ?_
    refine r_sipush dX11_beginOne_12 (by decide) (by decide) ?_
    refine r_icmp_le (tgt := 20) dX11_beginOne_15 (by decide) (fun h15 => ?_) (fun h15 => ?_)
    · refine r_aload_n dX11_beginOne_20 rfl (by decide) ?_
      refine r_cv0 dX11_beginOne_21 clX11_175 sf429 (by decide) (by decide) rfl (by first | decide | omega) (Nat.le_of_ble_eq_true rfl) (c_nameOf) ⟨Nat.zero_le _, Nat.zero_le _⟩ (fun _ => ?_)
      refine r_istore_n dX11_beginOne_24 rfl (by decide) st1 ?_
      refine r_iload_n dX11_beginOne_25 rfl ?_
      refine r_if_lt (tgt := 39) dX11_beginOne_26 (by decide) (fun h26 => ?_) (fun h26 => ?_)
      · refine r_aload_n dX11_beginOne_39 rfl (by decide) ?_
        refine r_gi 9 dX11_beginOne_40 flX11_105 sf429 (by decide) (by decide) rfl rfl (by first | assumption | ((repeat (first | (apply rd_ne; · omega) | (apply rd_eq; · omega) | (apply rd_out; · omega) | (apply rd_in; · omega))); first | assumption | rfl)) ?_
        refine r_iconst dX11_beginOne_43 (by decide) ?_
        refine r_icmp_eq (tgt := 51) dX11_beginOne_44 (by decide) (fun h44 => ?_) (fun h44 => by exfalso; omega)
        refine r_aload_n dX11_beginOne_51 rfl (by decide) ?_
        refine r_aload_n dX11_beginOne_52 rfl (by decide) ?_
        refine r_gi 9 dX11_beginOne_53 flX11_105 sf429 (by decide) (by decide) rfl rfl (by first | assumption | ((repeat (first | (apply rd_ne; · omega) | (apply rd_eq; · omega) | (apply rd_out; · omega) | (apply rd_in; · omega))); first | assumption | rfl)) ?_
        refine r_iconst dX11_beginOne_56 (by decide) ?_
        refine r_icmp_ne (tgt := 64) dX11_beginOne_57 (by decide) (fun h57 => by exfalso; omega) (fun h57 => ?_)
        refine r_iconst dX11_beginOne_60 (by decide) ?_
        refine r_goto (tgt := 65) dX11_beginOne_61 (by decide) ?_
        refine r_aload_n dX11_beginOne_65 rfl (by decide) ?_
        refine r_gi 9 dX11_beginOne_66 flX11_105 sf429 (by decide) (by decide) rfl rfl (by first | assumption | ((repeat (first | (apply rd_ne; · omega) | (apply rd_eq; · omega) | (apply rd_out; · omega) | (apply rd_in; · omega))); first | assumption | rfl)) ?_
        refine r_iconst dX11_beginOne_69 (by decide) ?_
        refine r_icmp_ne (tgt := 80) dX11_beginOne_70 (by decide) (fun h70 => by exfalso; omega) (fun h70 => ?_)
        refine r_aload_n dX11_beginOne_73 rfl (by decide) ?_
        refine r_gi 10 dX11_beginOne_74 flX11_111 sf429 (by decide) (by decide) rfl rfl (by first | assumption | ((repeat (first | (apply rd_ne; · omega) | (apply rd_eq; · omega) | (apply rd_out; · omega) | (apply rd_in; · omega))); first | assumption | rfl)) ?_
        refine r_goto (tgt := 81) dX11_beginOne_77 (by decide) ?_
        refine r_cw2 dX11_beginOne_81 clX11_158 sf429 (by decide) (by decide) rfl (by first | decide | omega) (Nat.le_of_ble_eq_true rfl) ((c_emit h12 (by omega))) ⟨Nat.zero_le _, Nat.zero_le _⟩ ?_
        refine r_aload_n dX11_beginOne_84 rfl (by decide) ?_
        refine r_cw0 dX11_beginOne_85 clX11_172 sf429 (by decide) (by decide) rfl (by first | decide | omega) (Nat.le_of_ble_eq_true rfl) ((m_nextToken ((emA_o (by omega)).trans h4) hn (by rw [emA_o (by omega)]; exact h7))) ⟨Nat.zero_le _, Nat.zero_le _⟩ ?_
        refine r_aload_n dX11_beginOne_88 rfl (by decide) ?_
        refine r_iconst dX11_beginOne_89 (by decide) ?_
        refine r_pz 18 dX11_beginOne_90 fpX11_181 sf429 (by decide) (by decide) rfl (by omega) rfl ?_
        refine r_aload_n dX11_beginOne_93 rfl (by decide) ?_
        refine r_bipush dX11_beginOne_94 (by decide) (by decide) ?_
        refine r_cw1 dX11_beginOne_96 clX11_185 sf429 (by decide) (by decide) rfl (by first | decide | omega) (Nat.le_of_ble_eq_true rfl) ((m_settle (i := m) ((up_ne (by omega)).trans ((nxT_o (by omega)).trans ((emA_o (by omega)).trans h16))) (by rw [up_ne (by omega), nxT_o (by omega), emA_o (by omega)]; exact h12) (by rw [up_ne (by omega), nxT_o (by omega), emA_13]; omega) (by rw [up_ne (by omega), nxT_o (by omega), emA_o (by omega)]; omega))) ⟨Nat.zero_le _, Nat.zero_le _⟩ ?_
        refine r_iconst dX11_beginOne_99 (by decide) ?_
        refine r_iret dX11_beginOne_100 rfl ?_
        first | exact bgL (bg_n (by omega) (by unfold naM okN; omega) (by omega)) | exact bgL (bg_a (by unfold naM okN; omega) (by omega) (by unfold naM; omega))
      · refine r_aload_n dX11_beginOne_29 rfl (by decide) ?_
        refine r_iload_n dX11_beginOne_30 rfl ?_
        refine r_cv1 dX11_beginOne_31 clX11_178 sf429 (by decide) (by decide) rfl (by first | decide | omega) (Nat.le_of_ble_eq_true rfl) (c_isOf) ⟨Nat.zero_le _, Nat.zero_le _⟩ (fun _ => ?_)
        refine r_if_ne (tgt := 39) dX11_beginOne_34 (by decide) (fun h34 => ?_) (fun h34 => ?_)
        · try have h34 := bi_1.mp h34
          refine r_aload_n dX11_beginOne_39 rfl (by decide) ?_
          refine r_gi 9 dX11_beginOne_40 flX11_105 sf429 (by decide) (by decide) rfl rfl (by first | assumption | ((repeat (first | (apply rd_ne; · omega) | (apply rd_eq; · omega) | (apply rd_out; · omega) | (apply rd_in; · omega))); first | assumption | rfl)) ?_
          refine r_iconst dX11_beginOne_43 (by decide) ?_
          refine r_icmp_eq (tgt := 51) dX11_beginOne_44 (by decide) (fun h44 => ?_) (fun h44 => by exfalso; omega)
          refine r_aload_n dX11_beginOne_51 rfl (by decide) ?_
          refine r_aload_n dX11_beginOne_52 rfl (by decide) ?_
          refine r_gi 9 dX11_beginOne_53 flX11_105 sf429 (by decide) (by decide) rfl rfl (by first | assumption | ((repeat (first | (apply rd_ne; · omega) | (apply rd_eq; · omega) | (apply rd_out; · omega) | (apply rd_in; · omega))); first | assumption | rfl)) ?_
          refine r_iconst dX11_beginOne_56 (by decide) ?_
          refine r_icmp_ne (tgt := 64) dX11_beginOne_57 (by decide) (fun h57 => by exfalso; omega) (fun h57 => ?_)
          refine r_iconst dX11_beginOne_60 (by decide) ?_
          refine r_goto (tgt := 65) dX11_beginOne_61 (by decide) ?_
          refine r_aload_n dX11_beginOne_65 rfl (by decide) ?_
          refine r_gi 9 dX11_beginOne_66 flX11_105 sf429 (by decide) (by decide) rfl rfl (by first | assumption | ((repeat (first | (apply rd_ne; · omega) | (apply rd_eq; · omega) | (apply rd_out; · omega) | (apply rd_in; · omega))); first | assumption | rfl)) ?_
          refine r_iconst dX11_beginOne_69 (by decide) ?_
          refine r_icmp_ne (tgt := 80) dX11_beginOne_70 (by decide) (fun h70 => by exfalso; omega) (fun h70 => ?_)
          refine r_aload_n dX11_beginOne_73 rfl (by decide) ?_
          refine r_gi 10 dX11_beginOne_74 flX11_111 sf429 (by decide) (by decide) rfl rfl (by first | assumption | ((repeat (first | (apply rd_ne; · omega) | (apply rd_eq; · omega) | (apply rd_out; · omega) | (apply rd_in; · omega))); first | assumption | rfl)) ?_
          refine r_goto (tgt := 81) dX11_beginOne_77 (by decide) ?_
          refine r_cw2 dX11_beginOne_81 clX11_158 sf429 (by decide) (by decide) rfl (by first | decide | omega) (Nat.le_of_ble_eq_true rfl) ((c_emit h12 (by omega))) ⟨Nat.zero_le _, Nat.zero_le _⟩ ?_
          refine r_aload_n dX11_beginOne_84 rfl (by decide) ?_
          refine r_cw0 dX11_beginOne_85 clX11_172 sf429 (by decide) (by decide) rfl (by first | decide | omega) (Nat.le_of_ble_eq_true rfl) ((m_nextToken ((emA_o (by omega)).trans h4) hn (by rw [emA_o (by omega)]; exact h7))) ⟨Nat.zero_le _, Nat.zero_le _⟩ ?_
          refine r_aload_n dX11_beginOne_88 rfl (by decide) ?_
          refine r_iconst dX11_beginOne_89 (by decide) ?_
          refine r_pz 18 dX11_beginOne_90 fpX11_181 sf429 (by decide) (by decide) rfl (by omega) rfl ?_
          refine r_aload_n dX11_beginOne_93 rfl (by decide) ?_
          refine r_bipush dX11_beginOne_94 (by decide) (by decide) ?_
          refine r_cw1 dX11_beginOne_96 clX11_185 sf429 (by decide) (by decide) rfl (by first | decide | omega) (Nat.le_of_ble_eq_true rfl) ((m_settle (i := m) ((up_ne (by omega)).trans ((nxT_o (by omega)).trans ((emA_o (by omega)).trans h16))) (by rw [up_ne (by omega), nxT_o (by omega), emA_o (by omega)]; exact h12) (by rw [up_ne (by omega), nxT_o (by omega), emA_13]; omega) (by rw [up_ne (by omega), nxT_o (by omega), emA_o (by omega)]; omega))) ⟨Nat.zero_le _, Nat.zero_le _⟩ ?_
          refine r_iconst dX11_beginOne_99 (by decide) ?_
          refine r_iret dX11_beginOne_100 rfl ?_
          first | exact bgL (bg_n (by omega) (by unfold naM okN; omega) (by omega)) | exact bgL (bg_a (by unfold naM okN; omega) (by omega) (by unfold naM; omega))
        · try have h34 := bi_0.mp h34
          refine r_iconst dX11_beginOne_37 (by decide) ?_
          refine r_iret dX11_beginOne_38 rfl ?_
          exact bgL (bg_5 (by omega) (by unfold naM okN; omega))
    · refine r_iconst dX11_beginOne_18 (by decide) ?_
      refine r_iret dX11_beginOne_19 rfl ?_
      exact bgL (bg_2 (by omega))
