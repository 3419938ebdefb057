abbrev ini (M : Me) : Me := up (up (up M 429 16 0) 429 17 0) 429 18 0
abbrev lcX (M : Me) (i : Int) : Me := ini (up M 432 (i + 1) (M 429 13))
def smF : Nat := 999 + 1
/-- the law that begins here ends within the rows -/
def SOK (M : Me) (n : Nat) (i : Int) : Prop := smG n smF (lcX M i) ∧ (smI n smF (lcX M i)).1 ≠ -1
def lcV (M : Me) (n : Nat) (i : Int) : Int := (smI n smF (lcX M i)).1
def lcM (M : Me) (n : Nat) (i : Int) : Me := up (smI n smF (lcX M i)).2 432 (i + 2) ((smI n smF (lcX M i)).2 429 13)
theorem P7.fg {M : Me} {n : Nat} {i a b : Int} (h : P7 M n) : P7 (fgM M n i a b) n := by
  unfold fgM
  split
  · exact (h.up (by omega)).nx
  · exact h
theorem P7.wd {M : Me} {n : Nat} {w i a b : Int} (h : P7 M n) : P7 (wdM M n w i a b) n := by
  unfold wdM
  split
  · exact h.nx.fg
  · exact h
theorem P7.pr {M : Me} {n : Nat} {w i c d : Int} (h : P7 M n) : P7 (prM M n w i c d) n := by
  unfold prM
  split
  · exact h.fg.wd
  · exact h.fg
theorem P7.lc {M : Me} {n : Nat} {i : Int} (h : P7 M n) : P7 (lcM M n i) n := (P7.sm smF _ ((((h.up (by omega)).up (by omega)).up (by omega)).up (by omega))).up (by omega)
theorem m_lawClause {x y z : Int} {M : Me} {n : Nat} {i : Int} (hi : 0 ≤ i ∧ i + 2 < 2820) (hS : SOK M n i) : Con kX11_lawClause 8 0 0 [(1, 429), (0, i)] (Sf x y z) M (Ex (some (0, lcV M n i)) (Sf x y z) (lcM M n i)) := by
  refine Con.ofV (al := [(1, 429), (0, i), (9, 0)]) 1 (by decide) (Nat.le_of_ble_eq_true rfl) rfl ?_
  refine r_aload_n dX11_lawClause_0 rfl (by decide) ?_
  refine r_getr (x := 432) dX11_lawClause_1 flX11_16 sf429 (by decide) (by decide) rfl rfl ?_
  refine r_iload_n dX11_lawClause_4 rfl ?_
  refine r_iconst dX11_lawClause_5 (by decide) ?_
  refine r_iadd dX11_lawClause_6 (w32_id (by omega)) ?_
  refine r_aload_n dX11_lawClause_7 rfl (by decide) ?_
  refine r_gi 13 dX11_lawClause_8 flX11_146 sf429 (by decide) (by decide) rfl rfl rfl ?_
  refine r_iast dX11_lawClause_11 sf432 (by decide) (by omega) (by omega) (by decide) rfl ?_
  refine r_aload_n dX11_lawClause_12 rfl (by decide) ?_
  refine r_cv0 dX11_lawClause_13 clX11_225 sf429 (by decide) (by decide) rfl (by first | decide | omega) (Nat.le_of_ble_eq_true rfl) ((m_summed hS.1 hS.2)) ⟨Nat.zero_le _, Nat.zero_le _⟩ (fun _ => ?_)
  refine r_istore_n dX11_lawClause_16 rfl (by decide) st2 ?_
  refine r_aload_n dX11_lawClause_17 rfl (by decide) ?_
  refine r_getr (x := 432) dX11_lawClause_18 flX11_16 sf429 (by decide) (by decide) rfl rfl ?_
  refine r_iload_n dX11_lawClause_21 rfl ?_
  refine r_iconst dX11_lawClause_22 (by decide) ?_
  refine r_iadd dX11_lawClause_23 (w32_id (by omega)) ?_
  refine r_aload_n dX11_lawClause_24 rfl (by decide) ?_
  refine r_gi 13 dX11_lawClause_25 flX11_146 sf429 (by decide) (by decide) rfl rfl rfl ?_
  refine r_iast dX11_lawClause_28 sf432 (by decide) (by omega) (by omega) (by decide) rfl ?_
  refine r_iload_n dX11_lawClause_29 rfl ?_
  refine r_iret dX11_lawClause_30 rfl ?_
  exact ⟨rfl, rfl, rfl⟩
def cr1 (M : Me) (n : Nat) (i : Int) : Me := fgM M n (i + 1) 0 4
def cr2 (M : Me) (n : Nat) (i : Int) : Me := wdM (cr1 M n i) n (w4L 121 101 97 114) (i + 2) 0 99
def crW (M : Me) (n : Nat) (i : Int) : Int := wdV (cr1 M n i) n (w4L 121 101 97 114) 0 99
def crV (M : Me) (n : Nat) (i : Int) : Int := if fgV M 0 4 = 0 then (if crW M n i = 0 then wdV (cr2 M n i) n (w5L 100 101 112 116 104) 1 9 else crW M n i) else fgV M 0 4
def crM (M : Me) (n : Nat) (i : Int) : Me := if fgV M 0 4 = 0 then (if crW M n i = 0 then wdM (cr2 M n i) n (w5L 100 101 112 116 104) (i + 3) 1 9 else cr2 M n i) else cr1 M n i
theorem P7.cr {M : Me} {n : Nat} {i : Int} (h : P7 M n) : P7 (crM M n i) n := by
  unfold crM
  (repeat' split)
  · exact h.fg.wd.wd
  · exact h.fg.wd
  · exact h.fg
theorem m_creaseClause {x y z : Int} {M : Me} {i : Int} (hi : 0 ≤ i ∧ i + 3 < 2820) {n : Nat} (hP : P7 M n) (hn : n ≤ 300) : Con kX11_creaseClause 5 0 0 [(1, 429), (0, i)] (Sf x y z) M (Ex (some (0, crV M n i)) (Sf x y z) (crM M n i)) := by
  refine Con.ofV (al := [(1, 429), (0, i), (9, 0)]) 1 (by decide) (Nat.le_of_ble_eq_true rfl) rfl ?_
  have hA : P7 (cr1 M n i) n := hP.fg
  have hB : P7 (cr2 M n i) n := hP.fg.wd
  refine r_aload_n dX11_creaseClause_0 rfl (by decide) ?_
  refine r_iload_n dX11_creaseClause_1 rfl ?_
  refine r_iconst dX11_creaseClause_2 (by decide) ?_
  refine r_iadd dX11_creaseClause_3 (w32_id (by omega)) ?_
  refine r_iconst dX11_creaseClause_4 (by decide) ?_
  refine r_iconst dX11_creaseClause_5 (by decide) ?_
  refine r_cv3 dX11_creaseClause_6 clX11_221 sf429 (by decide) (by decide) rfl (by first | decide | omega) (Nat.le_of_ble_eq_true rfl) ((m_figureE (by omega) hP.1 hn hP.2)) ⟨Nat.zero_le _, Nat.zero_le _⟩ (fun _ => ?_)
  refine V.cm rfl (show _ = cr1 M n i from rfl) ?_
  refine r_istore_n dX11_creaseClause_9 rfl (by decide) st2 ?_
  refine r_iload_n dX11_creaseClause_10 rfl ?_
  refine r_if_ne (tgt := 36) dX11_creaseClause_11 (by decide) (fun h11 => ?_) (fun h11 => ?_)
  · refine r_iload_n dX11_creaseClause_36 rfl ?_
    refine r_if_eq (tgt := 44) dX11_creaseClause_37 (by decide) (fun h37 => by exfalso; omega) (fun h37 => ?_)
    refine r_iload_n dX11_creaseClause_40 rfl ?_
    refine r_goto (tgt := 67) dX11_creaseClause_41 (by decide) ?_
    refine r_iret dX11_creaseClause_67 rfl ?_
    first | exact ⟨by unfold crV; rw [if_neg (by assumption)], rfl, by unfold crM; rw [if_neg (by assumption)]⟩ | exact ⟨by unfold crV crW; rw [if_pos (by omega), if_pos (by assumption)], rfl, by unfold crM crW; rw [if_pos (by omega), if_pos (by assumption)]⟩ | exact ⟨by unfold crV crW; rw [if_pos (by omega), if_neg (by assumption)], rfl, by unfold crM crW; rw [if_pos (by omega), if_neg (by assumption)]⟩
  · refine r_aload_n dX11_creaseClause_14 rfl (by decide) ?_
    refine r_bipush dX11_creaseClause_15 (by decide) (by decide) ?_
    refine r_bipush dX11_creaseClause_17 (by decide) (by decide) ?_
    refine r_bipush dX11_creaseClause_19 (by decide) (by decide) ?_
    refine r_bipush dX11_creaseClause_21 (by decide) (by decide) ?_
    refine r_cs4 dX11_creaseClause_23 clX11_135 (by first | decide | omega) (Nat.le_of_ble_eq_true rfl) (c_w4) ⟨Nat.zero_le _, Nat.zero_le _⟩ (fun _ => ?_)
    refine r_iload_n dX11_creaseClause_26 rfl ?_
    refine r_iconst dX11_creaseClause_27 (by decide) ?_
    refine r_iadd dX11_creaseClause_28 (w32_id (by omega)) ?_
    refine r_iconst dX11_creaseClause_29 (by decide) ?_
    refine r_bipush dX11_creaseClause_30 (by decide) (by decide) ?_
    refine r_cv4 dX11_creaseClause_32 clX11_228 sf429 (by decide) (by decide) rfl (by first | decide | omega) (Nat.le_of_ble_eq_true rfl) ((m_worded (by omega) hA.1 hn hA.2)) ⟨Nat.zero_le _, Nat.zero_le _⟩ (fun _ => ?_)
    refine V.cm rfl (show _ = cr2 M n i from rfl) ?_
    refine r_istore_n dX11_creaseClause_35 rfl (by decide) st2 ?_
    refine r_iload_n dX11_creaseClause_36 rfl ?_
    refine r_if_eq (tgt := 44) dX11_creaseClause_37 (by decide) (fun h37 => ?_) (fun h37 => ?_)
    · refine r_aload_n dX11_creaseClause_44 rfl (by decide) ?_
      refine r_bipush dX11_creaseClause_45 (by decide) (by decide) ?_
      refine r_bipush dX11_creaseClause_47 (by decide) (by decide) ?_
      refine r_bipush dX11_creaseClause_49 (by decide) (by decide) ?_
      refine r_bipush dX11_creaseClause_51 (by decide) (by decide) ?_
      refine r_bipush dX11_creaseClause_53 (by decide) (by decide) ?_
      refine r_cs5 dX11_creaseClause_55 clX11_139 (by first | decide | omega) (Nat.le_of_ble_eq_true rfl) (c_w5) ⟨Nat.zero_le _, Nat.zero_le _⟩ (fun _ => ?_)
      refine r_iload_n dX11_creaseClause_58 rfl ?_
      refine r_iconst dX11_creaseClause_59 (by decide) ?_
      refine r_iadd dX11_creaseClause_60 (w32_id (by omega)) ?_
      refine r_iconst dX11_creaseClause_61 (by decide) ?_
      refine r_bipush dX11_creaseClause_62 (by decide) (by decide) ?_
      refine r_cv4 dX11_creaseClause_64 clX11_228 sf429 (by decide) (by decide) rfl (by first | decide | omega) (Nat.le_of_ble_eq_true rfl) ((m_worded (by omega) hB.1 hn hB.2)) ⟨Nat.zero_le _, Nat.zero_le _⟩ (fun _ => ?_)
      refine r_iret dX11_creaseClause_67 rfl ?_
      first | exact ⟨by unfold crV; rw [if_neg (by assumption)], rfl, by unfold crM; rw [if_neg (by assumption)]⟩ | exact ⟨by unfold crV crW; rw [if_pos (by omega), if_pos (by assumption)], rfl, by unfold crM crW; rw [if_pos (by omega), if_pos (by assumption)]⟩ | exact ⟨by unfold crV crW; rw [if_pos (by omega), if_neg (by assumption)], rfl, by unfold crM crW; rw [if_pos (by omega), if_neg (by assumption)]⟩
    · refine r_iload_n dX11_creaseClause_40 rfl ?_
      refine r_goto (tgt := 67) dX11_creaseClause_41 (by decide) ?_
      refine r_iret dX11_creaseClause_67 rfl ?_
      first | exact ⟨by unfold crV; rw [if_neg (by assumption)], rfl, by unfold crM; rw [if_neg (by assumption)]⟩ | exact ⟨by unfold crV crW; rw [if_pos (by omega), if_pos (by assumption)], rfl, by unfold crM crW; rw [if_pos (by omega), if_pos (by assumption)]⟩ | exact ⟨by unfold crV crW; rw [if_pos (by omega), if_neg (by assumption)], rfl, by unfold crM crW; rw [if_pos (by omega), if_neg (by assumption)]⟩
def bdV (M : Me) (n : Nat) (s i : Int) : Int := if s = 3 then prV M n (w5L 99 111 105 110 115) i 2 9999 else if s = 4 then crV M n i else if s = 5 then prV M n (w2L 116 111) i 11 11 else if s = 6 then fgV M 0 9 else if s = 7 ∨ s = 8 then fgV M 0 11 else if s = 9 then fgV M 1 9 else if s = 10 then fgV M 1 60 else lcV M n i
def bdM (M : Me) (n : Nat) (s i : Int) : Me := if s = 3 then prM M n (w5L 99 111 105 110 115) i 2 9999 else if s = 4 then crM M n i else if s = 5 then prM M n (w2L 116 111) i 11 11 else if s = 6 then fgM M n (i + 1) 0 9 else if s = 7 ∨ s = 8 then fgM M n (i + 1) 0 11 else if s = 9 then fgM M n (i + 1) 1 9 else if s = 10 then fgM M n (i + 1) 1 60 else lcM M n i
theorem P7.bd {M : Me} {n : Nat} {s i : Int} (h : P7 M n) : P7 (bdM M n s i) n := by
  unfold bdM
  (repeat' split) <;> first | exact h.pr | exact h.cr | exact h.fg | exact h.lc
theorem m_body {x y z : Int} {M : Me} {s i : Int} (hi : 0 ≤ i ∧ i + 3 < 2820) {n : Nat} (hP : P7 M n) (hn : n ≤ 300) (hs : 0 ≤ s ∧ s ≤ 10) (hS : s ≤ 2 → SOK M n i) : Con kX11_body 9 0 0 [(1, 429), (0, s), (0, i)] (Sf x y z) M (Ex (some (0, bdV M n s i)) (Sf x y z) (bdM M n s i)) := by
  refine Con.ofV (al := [(1, 429), (0, s), (0, i)]) 0 (by decide) (Nat.le_of_ble_eq_true rfl) rfl ?_
  refine r_iload_n dX11_body_0 rfl ?_
  rcases (show (s < 3 ∨ 10 < s) ∨ s = 3 ∨ s = 4 ∨ s = 5 ∨ s = 6 ∨ s = 7 ∨ s = 8 ∨ s = 9 ∨ s = 10 by omega) with hsw | hsw | hsw | hsw | hsw | hsw | hsw | hsw | hsw
  · refine r_tabOut (tgt := 149) dX11_body_1 hsw (by decide) ?_
    refine r_aload_n dX11_body_149 rfl (by decide) ?_
    refine r_iload_n dX11_body_150 rfl ?_
    refine r_cv1 dX11_body_151 clX11_239 sf429 (by decide) (by decide) rfl (by first | decide | omega) (Nat.le_of_ble_eq_true rfl) ((m_lawClause (by omega) (hS (by omega)))) ⟨Nat.zero_le _, Nat.zero_le _⟩ (fun _ => ?_)
    refine r_iret dX11_body_154 rfl ?_
    exact ⟨by unfold bdV; rw [if_neg (by omega), if_neg (by omega), if_neg (by omega), if_neg (by omega), if_neg (by omega), if_neg (by omega), if_neg (by omega)], rfl, by unfold bdM; rw [if_neg (by omega), if_neg (by omega), if_neg (by omega), if_neg (by omega), if_neg (by omega), if_neg (by omega), if_neg (by omega)]⟩
  · refine r_tabEq (tgt := 48) dX11_body_1 hsw (by decide) (by decide) rfl (by decide) ?_
    refine r_aload_n dX11_body_48 rfl (by decide) ?_
    refine r_iload_n dX11_body_49 rfl ?_
    refine r_iconst dX11_body_50 (by decide) ?_
    refine r_bipush dX11_body_51 (by decide) (by decide) ?_
    refine r_bipush dX11_body_53 (by decide) (by decide) ?_
    refine r_bipush dX11_body_55 (by decide) (by decide) ?_
    refine r_bipush dX11_body_57 (by decide) (by decide) ?_
    refine r_bipush dX11_body_59 (by decide) (by decide) ?_
    refine r_cs5 dX11_body_61 clX11_139 (by first | decide | omega) (Nat.le_of_ble_eq_true rfl) (c_w5) ⟨Nat.zero_le _, Nat.zero_le _⟩ (fun _ => ?_)
    refine r_sipush dX11_body_64 (by decide) (by decide) ?_
    refine r_cv4 dX11_body_67 clX11_232 sf429 (by decide) (by decide) rfl (by first | decide | omega) (Nat.le_of_ble_eq_true rfl) ((m_pair (by omega) hP.1 hn hP.2)) ⟨Nat.zero_le _, Nat.zero_le _⟩ (fun _ => ?_)
    refine r_iret dX11_body_70 rfl ?_
    exact ⟨by unfold bdV; rw [if_pos (by omega)], rfl, by unfold bdM; rw [if_pos (by omega)]⟩
  · refine r_tabEq (tgt := 71) dX11_body_1 hsw (by decide) (by decide) rfl (by decide) ?_
    refine r_aload_n dX11_body_71 rfl (by decide) ?_
    refine r_iload_n dX11_body_72 rfl ?_
    refine r_cv1 dX11_body_73 clX11_236 sf429 (by decide) (by decide) rfl (by first | decide | omega) (Nat.le_of_ble_eq_true rfl) ((m_creaseClause hi hP hn)) ⟨Nat.zero_le _, Nat.zero_le _⟩ (fun _ => ?_)
    refine r_iret dX11_body_76 rfl ?_
    exact ⟨by unfold bdV; rw [if_neg (by omega), if_pos (by omega)], rfl, by unfold bdM; rw [if_neg (by omega), if_pos (by omega)]⟩
  · refine r_tabEq (tgt := 77) dX11_body_1 hsw (by decide) (by decide) rfl (by decide) ?_
    refine r_aload_n dX11_body_77 rfl (by decide) ?_
    refine r_iload_n dX11_body_78 rfl ?_
    refine r_bipush dX11_body_79 (by decide) (by decide) ?_
    refine r_bipush dX11_body_81 (by decide) (by decide) ?_
    refine r_bipush dX11_body_83 (by decide) (by decide) ?_
    refine r_cs2 dX11_body_85 clX11_127 (by first | decide | omega) (Nat.le_of_ble_eq_true rfl) (c_w2) ⟨Nat.zero_le _, Nat.zero_le _⟩ (fun _ => ?_)
    refine r_bipush dX11_body_88 (by decide) (by decide) ?_
    refine r_cv4 dX11_body_90 clX11_232 sf429 (by decide) (by decide) rfl (by first | decide | omega) (Nat.le_of_ble_eq_true rfl) ((m_pair (by omega) hP.1 hn hP.2)) ⟨Nat.zero_le _, Nat.zero_le _⟩ (fun _ => ?_)
    refine r_iret dX11_body_93 rfl ?_
    exact ⟨by unfold bdV; rw [if_neg (by omega), if_neg (by omega), if_pos (by omega)], rfl, by unfold bdM; rw [if_neg (by omega), if_neg (by omega), if_pos (by omega)]⟩
  · refine r_tabEq (tgt := 94) dX11_body_1 hsw (by decide) (by decide) rfl (by decide) ?_
    refine r_aload_n dX11_body_94 rfl (by decide) ?_
    refine r_iload_n dX11_body_95 rfl ?_
    refine r_iconst dX11_body_96 (by decide) ?_
    refine r_iadd dX11_body_97 (w32_id (by omega)) ?_
    refine r_iconst dX11_body_98 (by decide) ?_
    refine r_bipush dX11_body_99 (by decide) (by decide) ?_
    refine r_cv3 dX11_body_101 clX11_221 sf429 (by decide) (by decide) rfl (by first | decide | omega) (Nat.le_of_ble_eq_true rfl) ((m_figureE (by omega) hP.1 hn hP.2)) ⟨Nat.zero_le _, Nat.zero_le _⟩ (fun _ => ?_)
    refine r_iret dX11_body_104 rfl ?_
    exact ⟨by unfold bdV; rw [if_neg (by omega), if_neg (by omega), if_neg (by omega), if_pos (by omega)], rfl, by unfold bdM; rw [if_neg (by omega), if_neg (by omega), if_neg (by omega), if_pos (by omega)]⟩
  · refine r_tabEq (tgt := 105) dX11_body_1 hsw (by decide) (by decide) rfl (by decide) ?_
    refine r_aload_n dX11_body_105 rfl (by decide) ?_
    refine r_iload_n dX11_body_106 rfl ?_
    refine r_iconst dX11_body_107 (by decide) ?_
    refine r_iadd dX11_body_108 (w32_id (by omega)) ?_
    refine r_iconst dX11_body_109 (by decide) ?_
    refine r_bipush dX11_body_110 (by decide) (by decide) ?_
    refine r_cv3 dX11_body_112 clX11_221 sf429 (by decide) (by decide) rfl (by first | decide | omega) (Nat.le_of_ble_eq_true rfl) ((m_figureE (by omega) hP.1 hn hP.2)) ⟨Nat.zero_le _, Nat.zero_le _⟩ (fun _ => ?_)
    refine r_iret dX11_body_115 rfl ?_
    exact ⟨by unfold bdV; rw [if_neg (by omega), if_neg (by omega), if_neg (by omega), if_neg (by omega), if_pos (by omega)], rfl, by unfold bdM; rw [if_neg (by omega), if_neg (by omega), if_neg (by omega), if_neg (by omega), if_pos (by omega)]⟩
  · refine r_tabEq (tgt := 116) dX11_body_1 hsw (by decide) (by decide) rfl (by decide) ?_
    refine r_aload_n dX11_body_116 rfl (by decide) ?_
    refine r_iload_n dX11_body_117 rfl ?_
    refine r_iconst dX11_body_118 (by decide) ?_
    refine r_iadd dX11_body_119 (w32_id (by omega)) ?_
    refine r_iconst dX11_body_120 (by decide) ?_
    refine r_bipush dX11_body_121 (by decide) (by decide) ?_
    refine r_cv3 dX11_body_123 clX11_221 sf429 (by decide) (by decide) rfl (by first | decide | omega) (Nat.le_of_ble_eq_true rfl) ((m_figureE (by omega) hP.1 hn hP.2)) ⟨Nat.zero_le _, Nat.zero_le _⟩ (fun _ => ?_)
    refine r_iret dX11_body_126 rfl ?_
    exact ⟨by unfold bdV; rw [if_neg (by omega), if_neg (by omega), if_neg (by omega), if_neg (by omega), if_pos (by omega)], rfl, by unfold bdM; rw [if_neg (by omega), if_neg (by omega), if_neg (by omega), if_neg (by omega), if_pos (by omega)]⟩
  · refine r_tabEq (tgt := 127) dX11_body_1 hsw (by decide) (by decide) rfl (by decide) ?_
    refine r_aload_n dX11_body_127 rfl (by decide) ?_
    refine r_iload_n dX11_body_128 rfl ?_
    refine r_iconst dX11_body_129 (by decide) ?_
    refine r_iadd dX11_body_130 (w32_id (by omega)) ?_
    refine r_iconst dX11_body_131 (by decide) ?_
    refine r_bipush dX11_body_132 (by decide) (by decide) ?_
    refine r_cv3 dX11_body_134 clX11_221 sf429 (by decide) (by decide) rfl (by first | decide | omega) (Nat.le_of_ble_eq_true rfl) ((m_figureE (by omega) hP.1 hn hP.2)) ⟨Nat.zero_le _, Nat.zero_le _⟩ (fun _ => ?_)
    refine r_iret dX11_body_137 rfl ?_
    exact ⟨by unfold bdV; rw [if_neg (by omega), if_neg (by omega), if_neg (by omega), if_neg (by omega), if_neg (by omega), if_pos (by omega)], rfl, by unfold bdM; rw [if_neg (by omega), if_neg (by omega), if_neg (by omega), if_neg (by omega), if_neg (by omega), if_pos (by omega)]⟩
  · refine r_tabEq (tgt := 138) dX11_body_1 hsw (by decide) (by decide) rfl (by decide) ?_
    refine r_aload_n dX11_body_138 rfl (by decide) ?_
    refine r_iload_n dX11_body_139 rfl ?_
    refine r_iconst dX11_body_140 (by decide) ?_
    refine r_iadd dX11_body_141 (w32_id (by omega)) ?_
    refine r_iconst dX11_body_142 (by decide) ?_
    refine r_bipush dX11_body_143 (by decide) (by decide) ?_
    refine r_cv3 dX11_body_145 clX11_221 sf429 (by decide) (by decide) rfl (by first | decide | omega) (Nat.le_of_ble_eq_true rfl) ((m_figureE (by omega) hP.1 hn hP.2)) ⟨Nat.zero_le _, Nat.zero_le _⟩ (fun _ => ?_)
    refine r_iret dX11_body_148 rfl ?_
    exact ⟨by unfold bdV; rw [if_neg (by omega), if_neg (by omega), if_neg (by omega), if_neg (by omega), if_neg (by omega), if_neg (by omega), if_pos (by omega)], rfl, by unfold bdM; rw [if_neg (by omega), if_neg (by omega), if_neg (by omega), if_neg (by omega), if_neg (by omega), if_neg (by omega), if_pos (by omega)]⟩
/-- what the body of a clause leaves as it was -/
def FB (M N : Me) (i : Int) : Prop := ∀ a j : Int, a ≠ 434 → ¬ (a = 429 ∧ ((7 ≤ j ∧ j ≤ 11) ∨ j = 13 ∨ (16 ≤ j ∧ j ≤ 18))) → (a = 432 → ¬ (i + 1 ≤ j ∧ j ≤ i + 3) ∧ j < M 429 12 + 97) → N a j = M a j
theorem FB.rf {M : Me} {i : Int} : FB M M i := fun _ _ _ _ _ => rfl
theorem FB.tr {M N O : Me} {i : Int} (h : FB M N i) (k : FB N O i) : FB M O i := by
  have h12 : N 429 12 = M 429 12 := h 429 12 (by decide) (by omega) (by omega)
  exact fun a j p q r => (k a j p q (fun e => by have := r e; omega)).trans (h a j p q r)
theorem FB.nx {M : Me} {n : Nat} {i : Int} : FB M (nxT M n) i := fun _ _ _ _ _ => nxT_o (by omega)
theorem FB.up {M : Me} {i a j v : Int} (h : (a = 429 ∧ (16 ≤ j ∧ j ≤ 18)) ∨ (a = 432 ∧ i + 1 ≤ j ∧ j ≤ i + 3)) : FB M (up M a j v) i := fun a' j' p q r => up_ne (fun e => by
  rcases h with h | h
  · omega
  · have := r (by omega); omega)
theorem FB.fg {M : Me} {n : Nat} {i k a b : Int} (h : i + 1 ≤ k ∧ k ≤ i + 3) : FB M (fgM M n k a b) i := by
  unfold fgM
  split
  · exact (FB.up (Or.inr ⟨rfl, h⟩)).tr FB.nx
  · exact FB.rf
theorem FB.wd {M : Me} {n : Nat} {w i k a b : Int} (h : i + 1 ≤ k ∧ k ≤ i + 3) : FB M (wdM M n w k a b) i := by
  unfold wdM
  split
  · exact FB.nx.tr (FB.fg h)
  · exact FB.rf
theorem FB.pr {M : Me} {n : Nat} {w i c d : Int} : FB M (prM M n w i c d) i := by
  unfold prM
  split
  · exact (FB.fg (by omega)).tr (FB.wd (by omega))
  · exact FB.fg (by omega)
theorem FB.cr {M : Me} {n : Nat} {i : Int} : FB M (crM M n i) i := by
  unfold crM
  (repeat' split)
  · exact ((FB.fg (by omega)).tr (FB.wd (by omega))).tr (FB.wd (by omega))
  · exact (FB.fg (by omega)).tr (FB.wd (by omega))
  · exact FB.fg (by omega)
theorem FB.lc {M : Me} {n : Nat} {i : Int} (hS : SOK M n i) : FB M (lcM M n i) i := by
  have h1 : FB M (lcX M i) i := (FB.up (Or.inr ⟨rfl, by omega⟩)).tr ((FB.up (Or.inl ⟨rfl, by omega⟩)).tr ((FB.up (Or.inl ⟨rfl, by omega⟩)).tr (FB.up (Or.inl ⟨rfl, by omega⟩))))
  have hg : GD (lcX M i) n := And.left hS.1
  have h2 := (FR.sm (n := n) smF (lcX M i)).1
  refine (h1.tr (fun a j p q r => h2 a j p q (fun e => ?_))).tr (FB.up (Or.inr ⟨rfl, by omega⟩))
  have := r e
  have := hg.2.2.2.2.1
  omega
theorem FB.bd {M : Me} {n : Nat} {s i : Int} (hs : 0 ≤ s ∧ s ≤ 10) (hS : s ≤ 2 → SOK M n i) : FB M (bdM M n s i) i := by
  unfold bdM
  (repeat' split) <;> first | exact FB.pr | exact FB.cr | exact FB.fg (by omega) | exact FB.lc (hS (by omega))
def clO (M : Me) : Me := if soO M ≤ 2 then up M 429 19 (or32 (M 429 19) (shl32 1 (soO M))) else M
theorem clO_o {M : Me} {a j : Int} (h : ¬ (a = 429 ∧ j = 19)) : clO M a j = M a j := by
  unfold clO
  split
  · exact up_ne h
  · rfl
def clI (M : Me) : Int := M 429 12 + 1 + 4 * M 432 (M 429 12)
/-- where the body of the clause begins -/
def clX (M : Me) (n : Nat) : Me := up (nxT (up (clO M) 429 14 (soO M)) n) 432 (clI M) (soO M)
def clB (M : Me) (n : Nat) : Me := bdM (clX M n) n (soO M) (clI M)
def clW (M : Me) (n : Nat) : Int := bdV (clX M n) n (soO M) (clI M)
def clN (M : Me) (n : Nat) : Me := up (clB M n) 432 (M 429 12) (M 432 (M 429 12) + 1)
def clV (M : Me) (n : Nat) : Int := if soO M < 0 then 1 else if soO M ≤ 2 ∧ and32 (shr32 (M 429 19) (soO M)) 1 = 1 then 4 else if M 432 (M 429 12) = 24 then 6 else if clW M n ≠ 0 then clW M n else if clB M n 429 9 = 59 then 0 else 1
def clM (M : Me) (n : Nat) : Me := if soO M < 0 then M else if soO M ≤ 2 ∧ and32 (shr32 (M 429 19) (soO M)) 1 = 1 then M else if M 432 (M 429 12) = 24 then M else if clW M n ≠ 0 then clB M n else if clB M n 429 9 = 59 then nxT (clN M n) n else clN M n
/-- what a clause needs -/
def CG (M : Me) (n : Nat) : Prop := (P7 M n ∧ n ≤ 300) ∧ (0 ≤ M 429 8 ∧ M 429 8 ≤ 300) ∧ (0 ≤ M 429 12 ∧ M 429 12 ≤ 2115) ∧ (0 ≤ M 432 (M 429 12) ∧ M 432 (M 429 12) ≤ 24)
/-- the clause begins a law, which ends within the rows -/
def CS (M : Me) (n : Nat) : Prop := 0 ≤ soO M → soO M ≤ 2 → and32 (shr32 (M 429 19) (soO M)) 1 ≠ 1 → M 432 (M 429 12) ≠ 24 → SOK (clX M n) n (clI M)
theorem soO_b {M : Me} : -1 ≤ soO M ∧ soO M ≤ 10 := by
  unfold soO
  (repeat' split) <;> decide
theorem clX_7 {M : Me} {n : Nat} (h : P7 M n) : P7 (clX M n) n := ((h.of (N := up (clO M) 429 14 (soO M)) ((up_ne (by omega)).trans (clO_o (by omega))) ((up_ne (by omega)).trans (clO_o (by omega)))).nx).up (by omega)
theorem clX_o {M : Me} {n : Nat} {a j : Int} (h : ¬ (a = 432 ∧ j = clI M) ∧ ¬ (a = 429 ∧ ((7 ≤ j ∧ j ≤ 11) ∨ j = 14 ∨ j = 19))) : clX M n a j = M a j := (up_ne h.1).trans ((nxT_o (by omega)).trans ((up_ne (by omega)).trans (clO_o (by omega))))
theorem clB_o {M : Me} {n : Nat} (hs : 0 ≤ soO M) (hS : soO M ≤ 2 → SOK (clX M n) n (clI M)) {a j : Int} (h : a ≠ 434 ∧ ¬ (a = 429 ∧ ((7 ≤ j ∧ j ≤ 11) ∨ j = 13 ∨ j = 14 ∨ (16 ≤ j ∧ j ≤ 19)))) (k : a = 432 → ¬ (clI M ≤ j ∧ j ≤ clI M + 3) ∧ j < M 429 12 + 97) : clB M n a j = M a j := by
  have h12 : clX M n 429 12 = M 429 12 := clX_o (by omega)
  have := soO_b (M := M)
  refine (FB.bd (by omega) hS a j h.1 (by omega) (fun e => ?_)).trans (clX_o ⟨fun e => ?_, by omega⟩)
  · have := k e; omega
  · have := k e.1; omega
set_option maxHeartbeats 1000000 in
theorem m_clause {x y z : Int} {M : Me} {n : Nat} (hG : CG M n) (hS : CS M n) : Con kX11_clause 10 0 0 [(1, 429)] (Sf x y z) M (Ex (some (0, clV M n)) (Sf x y z) (clM M n)) := by
  refine Con.ofV (al := [(1, 429), (9, 0), (9, 0), (9, 0), (9, 0)]) 4 (by decide) (Nat.le_of_ble_eq_true rfl) rfl ?_
  obtain ⟨⟨hP, hn⟩, h8, h12, h24⟩ := hG
  have hsb := soO_b (M := M)
  have hX := clX_7 hP
  have hI : clI M = M 429 12 + 1 + 4 * M 432 (M 429 12) := rfl
  refine r_aload_n dX11_clause_0 rfl (by decide) ?_
  refine r_cv0 dX11_clause_1 clX11_246 sf429 (by decide) (by decide) rfl (by first | decide | omega) (Nat.le_of_ble_eq_true rfl) ((m_sortOf (by omega) (by omega) h8)) ⟨Nat.zero_le _, Nat.zero_le _⟩ (fun _ => ?_)
  refine r_istore_n dX11_clause_4 rfl (by decide) st1 ?_
  refine r_iload_n dX11_clause_5 rfl ?_
  refine r_if_ge (tgt := 11) dX11_clause_6 (by decide) (fun h6 => ?_) (fun h6 => ?_)
  · refine r_iload_n dX11_clause_11 rfl ?_
    refine r_iconst dX11_clause_12 (by decide) ?_
    refine r_icmp_gt (tgt := 29) dX11_clause_13 (by decide) (fun h13 => ?_) (fun h13 => ?_)
    · refine r_aload_n dX11_clause_29 rfl (by decide) ?_
      refine r_getr (x := 432) dX11_clause_30 flX11_16 sf429 (by decide) (by decide) rfl rfl ?_
      refine r_aload_n dX11_clause_33 rfl (by decide) ?_
      refine r_gi 12 dX11_clause_34 flX11_143 sf429 (by decide) (by decide) rfl rfl rfl ?_
      refine r_iald dX11_clause_37 sf432 (by decide) (by omega) (by omega) (by decide) rfl ?_
      refine r_istore_n dX11_clause_38 rfl (by decide) st2 ?_
      refine r_iload_n dX11_clause_39 rfl ?_
      refine r_bipush dX11_clause_40 (by decide) (by decide) ?_
      refine r_icmp_ne (tgt := 48) dX11_clause_42 (by decide) (fun h42 => ?_) (fun h42 => ?_)
      · refine r_iload_n dX11_clause_48 rfl ?_
        refine r_iconst dX11_clause_49 (by decide) ?_
        refine r_icmp_gt (tgt := 65) dX11_clause_50 (by decide) (fun h50 => ?_) (fun h50 => by exfalso; omega)
        first | (refine V.cm rfl (show M = clO M from (if_neg (by omega)).symm) ?_) | skip
        refine r_aload_n dX11_clause_65 rfl (by decide) ?_
        refine r_iload_n dX11_clause_66 rfl ?_
        refine r_pi 14 dX11_clause_67 fpX11_149 sf429 (by decide) (by decide) rfl rfl ?_
        refine r_aload_n dX11_clause_70 rfl (by decide) ?_
        refine r_cw0 dX11_clause_71 clX11_172 sf429 (by decide) (by decide) rfl (by first | decide | omega) (Nat.le_of_ble_eq_true rfl) ((m_nextToken (n := n) ((up_ne (by omega)).trans ((clO_o (by omega)).trans hP.1)) hn (by rw [up_ne (by omega), clO_o (by omega)]; exact hP.2))) ⟨Nat.zero_le _, Nat.zero_le _⟩ ?_
        refine r_aload_n dX11_clause_74 rfl (by decide) ?_
        refine r_gi 12 dX11_clause_75 flX11_143 sf429 (by decide) (by decide) rfl rfl ((nxT_o (by omega)).trans ((up_ne (by omega)).trans (clO_o (by omega)))) ?_
        refine r_iconst dX11_clause_78 (by decide) ?_
        refine r_iadd dX11_clause_79 (w32_id (by omega)) ?_
        refine r_iconst dX11_clause_80 (by decide) ?_
        refine r_iload_n dX11_clause_81 rfl ?_
        refine r_imul dX11_clause_82 (w32_id (by omega)) ?_
        refine r_iadd dX11_clause_83 (w32_id (by omega)) ?_
        refine r_istore_n dX11_clause_84 rfl (by decide) st3 ?_
        refine r_aload_n dX11_clause_85 rfl (by decide) ?_
        refine r_getr (x := 432) dX11_clause_86 flX11_16 sf429 (by decide) (by decide) rfl rfl ?_
        refine r_iload_n dX11_clause_89 rfl ?_
        refine r_iload_n dX11_clause_90 rfl ?_
        refine r_iast dX11_clause_91 sf432 (by decide) (by omega) (by omega) (by decide) rfl ?_
        refine V.cm rfl (show _ = clX M n from rfl) ?_
        refine r_aload_n dX11_clause_92 rfl (by decide) ?_
        refine r_iload_n dX11_clause_93 rfl ?_
        refine r_iload_n dX11_clause_94 rfl ?_
        refine r_cv2 dX11_clause_95 clX11_252 sf429 (by decide) (by decide) rfl (by first | decide | omega) (Nat.le_of_ble_eq_true rfl) ((m_body (by omega) hX hn (by omega) (fun q => hS (by omega) q (by first | assumption | (intro q2; omega)) (by omega)))) ⟨Nat.zero_le _, Nat.zero_le _⟩ (fun _ => ?_)
        refine V.cm rfl (show _ = clB M n from rfl) ?_
        refine r_istore dX11_clause_98 rfl (by decide) st4 ?_
        refine r_iload dX11_clause_100 rfl ?_
        refine r_if_eq (tgt := 108) dX11_clause_102 (by decide) (fun h102 => ?_) (fun h102 => ?_)
        · refine r_aload_n dX11_clause_108 rfl (by decide) ?_
          refine r_getr (x := 432) dX11_clause_109 flX11_16 sf429 (by decide) (by decide) rfl rfl ?_
          refine r_aload_n dX11_clause_112 rfl (by decide) ?_
          refine r_gi 12 dX11_clause_113 flX11_143 sf429 (by decide) (by decide) rfl rfl (clB_o (by omega) (fun q => hS (by omega) q (by first | assumption | (intro q2; omega)) (by omega)) (by omega) (by omega)) ?_
          refine r_dup2 dX11_clause_116 (Nat.ne_of_beq_eq_false rfl) (Nat.ne_of_beq_eq_false rfl) ?_
          refine r_iald dX11_clause_117 sf432 (by decide) (by omega) (by omega) (by decide) (clB_o (by omega) (fun q => hS (by omega) q (by first | assumption | (intro q2; omega)) (by omega)) (by omega) (by omega)) ?_
          refine r_iconst dX11_clause_118 (by decide) ?_
          refine r_iadd dX11_clause_119 (w32_id (by omega)) ?_
          refine r_iast dX11_clause_120 sf432 (by decide) (by omega) (by omega) (by decide) rfl ?_
          refine V.cm rfl (show _ = clN M n from rfl) ?_
          have hN : P7 (clN M n) n := (P7.bd hX).up (by omega)
          refine r_aload_n dX11_clause_121 rfl (by decide) ?_
          refine r_gi 9 dX11_clause_122 flX11_105 sf429 (by decide) (by decide) rfl rfl (up_ne (by omega)) ?_
          refine r_bipush dX11_clause_125 (by decide) (by decide) ?_
          refine r_icmp_eq (tgt := 132) dX11_clause_127 (by decide) (fun h127 => ?_) (fun h127 => ?_)
          · refine r_aload_n dX11_clause_132 rfl (by decide) ?_
            refine r_cw0 dX11_clause_133 clX11_172 sf429 (by decide) (by decide) rfl (by first | decide | omega) (Nat.le_of_ble_eq_true rfl) ((m_nextToken (n := n) hN.1 hn hN.2)) ⟨Nat.zero_le _, Nat.zero_le _⟩ ?_
            refine r_iconst dX11_clause_136 (by decide) ?_
            refine r_iret dX11_clause_137 rfl ?_
            exact ⟨by unfold clV; rw [if_neg (by omega), if_neg (fun q => by first | omega | exact absurd q.2 (by assumption)), if_neg (by omega), if_neg (fun q => q (show clW M n = 0 by assumption)), if_pos (by assumption)], rfl, by unfold clM; rw [if_neg (by omega), if_neg (fun q => by first | omega | exact absurd q.2 (by assumption)), if_neg (by omega), if_neg (fun q => q (show clW M n = 0 by assumption)), if_pos (by assumption)]⟩
          · refine r_iconst dX11_clause_130 (by decide) ?_
            refine r_iret dX11_clause_131 rfl ?_
            exact ⟨by unfold clV; rw [if_neg (by omega), if_neg (fun q => by first | omega | exact absurd q.2 (by assumption)), if_neg (by omega), if_neg (fun q => q (show clW M n = 0 by assumption)), if_neg (by assumption)], rfl, by unfold clM; rw [if_neg (by omega), if_neg (fun q => by first | omega | exact absurd q.2 (by assumption)), if_neg (by omega), if_neg (fun q => q (show clW M n = 0 by assumption)), if_neg (by assumption)]⟩
        · refine r_iload dX11_clause_105 rfl ?_
          refine r_iret dX11_clause_107 rfl ?_
          exact ⟨by unfold clV; rw [if_neg (by omega), if_neg (fun q => by first | omega | exact absurd q.2 (by assumption)), if_neg (by omega), if_pos (show clW M n ≠ 0 by assumption)]; rfl, rfl, by unfold clM; rw [if_neg (by omega), if_neg (fun q => by first | omega | exact absurd q.2 (by assumption)), if_neg (by omega), if_pos (show clW M n ≠ 0 by assumption)]⟩
      · refine r_bipush dX11_clause_45 (by decide) (by decide) ?_
        refine r_iret dX11_clause_47 rfl ?_
        exact ⟨by unfold clV; rw [if_neg (by omega), if_neg (fun q => by first | omega | exact absurd q.2 (by assumption)), if_pos (by omega)], rfl, by unfold clM; rw [if_neg (by omega), if_neg (fun q => by first | omega | exact absurd q.2 (by assumption)), if_pos (by omega)]⟩
    · refine r_aload_n dX11_clause_16 rfl (by decide) ?_
      refine r_gi 19 dX11_clause_17 flX11_249 sf429 (by decide) (by decide) rfl rfl rfl ?_
      refine r_iload_n dX11_clause_20 rfl ?_
      refine r_cs2 dX11_clause_21 clX11_84 (by first | decide | omega) (Nat.le_of_ble_eq_true rfl) (c_has) ⟨Nat.zero_le _, Nat.zero_le _⟩ (fun _ => ?_)
      refine r_if_eq (tgt := 29) dX11_clause_24 (by decide) (fun h24 => ?_) (fun h24 => ?_)
      · try have h24 := bi_0.mp h24
        refine r_aload_n dX11_clause_29 rfl (by decide) ?_
        refine r_getr (x := 432) dX11_clause_30 flX11_16 sf429 (by decide) (by decide) rfl rfl ?_
        refine r_aload_n dX11_clause_33 rfl (by decide) ?_
        refine r_gi 12 dX11_clause_34 flX11_143 sf429 (by decide) (by decide) rfl rfl rfl ?_
        refine r_iald dX11_clause_37 sf432 (by decide) (by omega) (by omega) (by decide) rfl ?_
        refine r_istore_n dX11_clause_38 rfl (by decide) st2 ?_
        refine r_iload_n dX11_clause_39 rfl ?_
        refine r_bipush dX11_clause_40 (by decide) (by decide) ?_
        refine r_icmp_ne (tgt := 48) dX11_clause_42 (by decide) (fun h42 => ?_) (fun h42 => ?_)
        · refine r_iload_n dX11_clause_48 rfl ?_
          refine r_iconst dX11_clause_49 (by decide) ?_
          refine r_icmp_gt (tgt := 65) dX11_clause_50 (by decide) (fun h50 => by exfalso; omega) (fun h50 => ?_)
          refine r_aload_n dX11_clause_53 rfl (by decide) ?_
          refine r_dup dX11_clause_54 (Nat.ne_of_beq_eq_false rfl) ?_
          refine r_gi 19 dX11_clause_55 flX11_249 sf429 (by decide) (by decide) rfl rfl rfl ?_
          refine r_iconst dX11_clause_58 (by decide) ?_
          refine r_iload_n dX11_clause_59 rfl ?_
          refine r_ishl dX11_clause_60 rfl ?_
          refine r_ior dX11_clause_61 rfl ?_
          refine r_pi 19 dX11_clause_62 fpX11_249 sf429 (by decide) (by decide) rfl rfl ?_
          refine V.cm rfl (show _ = clO M from (if_pos (by omega)).symm) ?_
          first | (refine V.cm rfl (show M = clO M from (if_neg (by omega)).symm) ?_) | skip
          refine r_aload_n dX11_clause_65 rfl (by decide) ?_
          refine r_iload_n dX11_clause_66 rfl ?_
          refine r_pi 14 dX11_clause_67 fpX11_149 sf429 (by decide) (by decide) rfl rfl ?_
          refine r_aload_n dX11_clause_70 rfl (by decide) ?_
          refine r_cw0 dX11_clause_71 clX11_172 sf429 (by decide) (by decide) rfl (by first | decide | omega) (Nat.le_of_ble_eq_true rfl) ((m_nextToken (n := n) ((up_ne (by omega)).trans ((clO_o (by omega)).trans hP.1)) hn (by rw [up_ne (by omega), clO_o (by omega)]; exact hP.2))) ⟨Nat.zero_le _, Nat.zero_le _⟩ ?_
          refine r_aload_n dX11_clause_74 rfl (by decide) ?_
          refine r_gi 12 dX11_clause_75 flX11_143 sf429 (by decide) (by decide) rfl rfl ((nxT_o (by omega)).trans ((up_ne (by omega)).trans (clO_o (by omega)))) ?_
          refine r_iconst dX11_clause_78 (by decide) ?_
          refine r_iadd dX11_clause_79 (w32_id (by omega)) ?_
          refine r_iconst dX11_clause_80 (by decide) ?_
          refine r_iload_n dX11_clause_81 rfl ?_
          refine r_imul dX11_clause_82 (w32_id (by omega)) ?_
          refine r_iadd dX11_clause_83 (w32_id (by omega)) ?_
          refine r_istore_n dX11_clause_84 rfl (by decide) st3 ?_
          refine r_aload_n dX11_clause_85 rfl (by decide) ?_
          refine r_getr (x := 432) dX11_clause_86 flX11_16 sf429 (by decide) (by decide) rfl rfl ?_
          refine r_iload_n dX11_clause_89 rfl ?_
          refine r_iload_n dX11_clause_90 rfl ?_
          refine r_iast dX11_clause_91 sf432 (by decide) (by omega) (by omega) (by decide) rfl ?_
          refine V.cm rfl (show _ = clX M n from rfl) ?_
          refine r_aload_n dX11_clause_92 rfl (by decide) ?_
          refine r_iload_n dX11_clause_93 rfl ?_
          refine r_iload_n dX11_clause_94 rfl ?_
          refine r_cv2 dX11_clause_95 clX11_252 sf429 (by decide) (by decide) rfl (by first | decide | omega) (Nat.le_of_ble_eq_true rfl) ((m_body (by omega) hX hn (by omega) (fun q => hS (by omega) q (by first | assumption | (intro q2; omega)) (by omega)))) ⟨Nat.zero_le _, Nat.zero_le _⟩ (fun _ => ?_)
          refine V.cm rfl (show _ = clB M n from rfl) ?_
          refine r_istore dX11_clause_98 rfl (by decide) st4 ?_
          refine r_iload dX11_clause_100 rfl ?_
          refine r_if_eq (tgt := 108) dX11_clause_102 (by decide) (fun h102 => ?_) (fun h102 => ?_)
          · refine r_aload_n dX11_clause_108 rfl (by decide) ?_
            refine r_getr (x := 432) dX11_clause_109 flX11_16 sf429 (by decide) (by decide) rfl rfl ?_
            refine r_aload_n dX11_clause_112 rfl (by decide) ?_
            refine r_gi 12 dX11_clause_113 flX11_143 sf429 (by decide) (by decide) rfl rfl (clB_o (by omega) (fun q => hS (by omega) q (by first | assumption | (intro q2; omega)) (by omega)) (by omega) (by omega)) ?_
            refine r_dup2 dX11_clause_116 (Nat.ne_of_beq_eq_false rfl) (Nat.ne_of_beq_eq_false rfl) ?_
            refine r_iald dX11_clause_117 sf432 (by decide) (by omega) (by omega) (by decide) (clB_o (by omega) (fun q => hS (by omega) q (by first | assumption | (intro q2; omega)) (by omega)) (by omega) (by omega)) ?_
            refine r_iconst dX11_clause_118 (by decide) ?_
            refine r_iadd dX11_clause_119 (w32_id (by omega)) ?_
            refine r_iast dX11_clause_120 sf432 (by decide) (by omega) (by omega) (by decide) rfl ?_
            refine V.cm rfl (show _ = clN M n from rfl) ?_
            have hN : P7 (clN M n) n := (P7.bd hX).up (by omega)
            refine r_aload_n dX11_clause_121 rfl (by decide) ?_
            refine r_gi 9 dX11_clause_122 flX11_105 sf429 (by decide) (by decide) rfl rfl (up_ne (by omega)) ?_
            refine r_bipush dX11_clause_125 (by decide) (by decide) ?_
            refine r_icmp_eq (tgt := 132) dX11_clause_127 (by decide) (fun h127 => ?_) (fun h127 => ?_)
            · refine r_aload_n dX11_clause_132 rfl (by decide) ?_
              refine r_cw0 dX11_clause_133 clX11_172 sf429 (by decide) (by decide) rfl (by first | decide | omega) (Nat.le_of_ble_eq_true rfl) ((m_nextToken (n := n) hN.1 hn hN.2)) ⟨Nat.zero_le _, Nat.zero_le _⟩ ?_
              refine r_iconst dX11_clause_136 (by decide) ?_
              refine r_iret dX11_clause_137 rfl ?_
              exact ⟨by unfold clV; rw [if_neg (by omega), if_neg (fun q => by first | omega | exact absurd q.2 (by assumption)), if_neg (by omega), if_neg (fun q => q (show clW M n = 0 by assumption)), if_pos (by assumption)], rfl, by unfold clM; rw [if_neg (by omega), if_neg (fun q => by first | omega | exact absurd q.2 (by assumption)), if_neg (by omega), if_neg (fun q => q (show clW M n = 0 by assumption)), if_pos (by assumption)]⟩
            · refine r_iconst dX11_clause_130 (by decide) ?_
              refine r_iret dX11_clause_131 rfl ?_
              exact ⟨by unfold clV; rw [if_neg (by omega), if_neg (fun q => by first | omega | exact absurd q.2 (by assumption)), if_neg (by omega), if_neg (fun q => q (show clW M n = 0 by assumption)), if_neg (by assumption)], rfl, by unfold clM; rw [if_neg (by omega), if_neg (fun q => by first | omega | exact absurd q.2 (by assumption)), if_neg (by omega), if_neg (fun q => q (show clW M n = 0 by assumption)), if_neg (by assumption)]⟩
          · refine r_iload dX11_clause_105 rfl ?_
            refine r_iret dX11_clause_107 rfl ?_
            exact ⟨by unfold clV; rw [if_neg (by omega), if_neg (fun q => by first | omega | exact absurd q.2 (by assumption)), if_neg (by omega), if_pos (show clW M n ≠ 0 by assumption)]; rfl, rfl, by unfold clM; rw [if_neg (by omega), if_neg (fun q => by first | omega | exact absurd q.2 (by assumption)), if_neg (by omega), if_pos (show clW M n ≠ 0 by assumption)]⟩
        · refine r_bipush dX11_clause_45 (by decide) (by decide) ?_
          refine r_iret dX11_clause_47 rfl ?_
          exact ⟨by unfold clV; rw [if_neg (by omega), if_neg (fun q => by first | omega | exact absurd q.2 (by assumption)), if_pos (by omega)], rfl, by unfold clM; rw [if_neg (by omega), if_neg (fun q => by first | omega | exact absurd q.2 (by assumption)), if_pos (by omega)]⟩
      · try have h24 := bi_1.mp h24
        refine r_iconst dX11_clause_27 (by decide) ?_
        refine r_iret dX11_clause_28 rfl ?_
        exact ⟨by unfold clV; rw [if_neg (by omega), if_pos ⟨by omega, by assumption⟩], rfl, by unfold clM; rw [if_neg (by omega), if_pos ⟨by omega, by assumption⟩]⟩
  · refine r_iconst dX11_clause_9 (by decide) ?_
    refine r_iret dX11_clause_10 rfl ?_
    exact ⟨by unfold clV; rw [if_pos (by omega)], rfl, by unfold clM; rw [if_pos (by omega)]⟩
