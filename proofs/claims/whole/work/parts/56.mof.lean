noncomputable def oOfV (M : Me) (n : Nat) (p w : Int) : Int := if 0 ≤ p ∧ p ≤ M 430 0 - 1 then (if w = 0 then M 430 (99 + 3 * p + 1) else if w = 1 then M 430 (99 + 3 * p + 0) else if w = 2 then (bset (fun c : Int => M 430 (15 + 7 * c + 2) = p) (fun c => c) n) else if w = 3 then and32 (bset (fun c : Int => M 430 (15 + 7 * c + 2) = p) (fun c => c) n) (bset (fun c : Int => M 430 (15 + 7 * c + 1) = 0) (fun c => c) n) else if w = 4 then isum (fun c : Int => and32 (shr32 (and32 (bset (fun c : Int => M 430 (15 + 7 * c + 2) = p) (fun c => c) n) (bset (fun c : Int => M 430 (15 + 7 * c + 1) = 0) (fun c => c) n)) c) 1 = 1) (fun c : Int => M 430 (15 + 7 * c + 5)) n else if w = 5 then (spn (crA M n p) 100).1 else -1000) else -1000
def oOcV (M : Me) (n : Nat) (c w : Int) : Int := if 0 ≤ c ∧ c ≤ M 430 14 - 1 then (if w = 0 then M 430 (15 + 7 * c + 2) else if w = 1 then M 430 (15 + 7 * c + 3) else if w = 2 then M 430 (15 + 7 * c + 0) else if w = 3 then M 430 (15 + 7 * c + 5) else if w = 4 then M 430 (15 + 7 * c + 1) else if w = 5 then M 430 (15 + 7 * c + 6) else if w = 6 then lwP M n c else if w = 7 then lwS M n c else if w = 8 then lwC M n c (M 430 2) else -1000) else -1000
def oOcM (M : Me) (n : Nat) (c w : Int) : Me := if 0 ≤ c ∧ c ≤ M 430 14 - 1 then (if w = 6 then lxM M n c (M 430 2) 0 else if w = 7 then lxM M n c (M 430 2) 1 else if w = 8 then lxM M n c (M 430 2) 2 else M) else M
theorem m_of {x y z : Int} {M : Me} (h : HY M) {n : Nat} (hn : M 430 14 = (n : Int)) (hn12 : n ≤ 12) {p w : Int} : Con kX11_of 4 0 0 [(1, 429), (0, p), (0, w)] (Sf x y z) M (Ex (some (0, oOfV M n p w)) (Sf x y z) M) := by
  refine Con.ofV (al := [(1, 429), (0, p), (0, w)]) 0 (by decide) (Nat.le_of_ble_eq_true rfl) rfl ?_
  have h0 := wa_0 h.1
  refine r_aload_n dX11_of_0 rfl (by decide) ?_
  refine r_iload_n dX11_of_1 rfl ?_
  refine r_cv1 dX11_of_2 clX11_74 sf429 (by decide) (by decide) rfl (by first | decide | omega) (Nat.le_of_ble_eq_true rfl) ((m_isPerson (wa_0 h.1))) ⟨Nat.zero_le _, Nat.zero_le _⟩ (fun _ => ?_)
  refine r_if_ne (tgt := 12) dX11_of_5 (by decide) (fun h5 => ?_) (fun h5 => ?_)
  · try have h5 := bi_1.mp h5
    refine r_iload_n dX11_of_12 rfl ?_
    rcases (show (w < 0 ∨ 5 < w) ∨ w = 0 ∨ w = 1 ∨ w = 2 ∨ w = 3 ∨ w = 4 ∨ w = 5 by omega) with hsw | hsw | hsw | hsw | hsw | hsw | hsw
    · refine r_tabOut (tgt := 104) dX11_of_13 hsw (by decide) ?_
      refine r_sipush dX11_of_104 (by decide) (by decide) ?_
      refine r_iret dX11_of_107 rfl ?_
      exact ⟨by unfold oOfV; rw [if_pos (by omega), if_neg (by omega), if_neg (by omega), if_neg (by omega), if_neg (by omega), if_neg (by omega), if_neg (by omega)], rfl, rfl⟩
    · refine r_tabEq (tgt := 52) dX11_of_13 hsw (by decide) (by decide) rfl (by decide) ?_
      refine r_aload_n dX11_of_52 rfl (by decide) ?_
      refine r_iload_n dX11_of_53 rfl ?_
      refine r_iconst dX11_of_54 (by decide) ?_
      refine r_cv2 dX11_of_55 clX11_296 sf429 (by decide) (by decide) rfl (by first | decide | omega) (Nat.le_of_ble_eq_true rfl) ((c_own (by omega) (by decide))) ⟨Nat.zero_le _, Nat.zero_le _⟩ (fun _ => ?_)
      refine r_iret dX11_of_58 rfl ?_
      exact ⟨by unfold oOfV; rw [if_pos (by omega), if_pos (by omega)], rfl, rfl⟩
    · refine r_tabEq (tgt := 59) dX11_of_13 hsw (by decide) (by decide) rfl (by decide) ?_
      refine r_aload_n dX11_of_59 rfl (by decide) ?_
      refine r_iload_n dX11_of_60 rfl ?_
      refine r_iconst dX11_of_61 (by decide) ?_
      refine r_cv2 dX11_of_62 clX11_296 sf429 (by decide) (by decide) rfl (by first | decide | omega) (Nat.le_of_ble_eq_true rfl) ((c_own (by omega) (by decide))) ⟨Nat.zero_le _, Nat.zero_le _⟩ (fun _ => ?_)
      refine r_iret dX11_of_65 rfl ?_
      exact ⟨by unfold oOfV; rw [if_pos (by omega), if_neg (by omega), if_pos (by omega)], rfl, rfl⟩
    · refine r_tabEq (tgt := 66) dX11_of_13 hsw (by decide) (by decide) rfl (by decide) ?_
      refine r_aload_n dX11_of_66 rfl (by decide) ?_
      refine r_iload_n dX11_of_67 rfl ?_
      refine r_cv1 dX11_of_68 clX11_387 sf429 (by decide) (by decide) rfl (by first | decide | omega) (Nat.le_of_ble_eq_true rfl) ((c_ownedBy hn hn12)) ⟨Nat.zero_le _, Nat.zero_le _⟩ (fun _ => ?_)
      refine r_iret dX11_of_71 rfl ?_
      exact ⟨by unfold oOfV; rw [if_pos (by omega), if_neg (by omega), if_neg (by omega), if_pos (by omega)], rfl, rfl⟩
    · refine r_tabEq (tgt := 72) dX11_of_13 hsw (by decide) (by decide) rfl (by decide) ?_
      refine r_aload_n dX11_of_72 rfl (by decide) ?_
      refine r_iload_n dX11_of_73 rfl ?_
      refine r_cv1 dX11_of_74 clX11_387 sf429 (by decide) (by decide) rfl (by first | decide | omega) (Nat.le_of_ble_eq_true rfl) ((c_ownedBy hn hn12)) ⟨Nat.zero_le _, Nat.zero_le _⟩ (fun _ => ?_)
      refine r_aload_n dX11_of_77 rfl (by decide) ?_
      refine r_cv0 dX11_of_78 clX11_336 sf429 (by decide) (by decide) rfl (by first | decide | omega) (Nat.le_of_ble_eq_true rfl) ((c_there hn hn12)) ⟨Nat.zero_le _, Nat.zero_le _⟩ (fun _ => ?_)
      refine r_iand dX11_of_81 rfl ?_
      refine r_iret dX11_of_82 rfl ?_
      exact ⟨by unfold oOfV; rw [if_pos (by omega), if_neg (by omega), if_neg (by omega), if_neg (by omega), if_pos (by omega)], rfl, rfl⟩
    · refine r_tabEq (tgt := 83) dX11_of_13 hsw (by decide) (by decide) rfl (by decide) ?_
      refine r_aload_n dX11_of_83 rfl (by decide) ?_
      refine r_aload_n dX11_of_84 rfl (by decide) ?_
      refine r_iload_n dX11_of_85 rfl ?_
      refine r_cv1 dX11_of_86 clX11_387 sf429 (by decide) (by decide) rfl (by first | decide | omega) (Nat.le_of_ble_eq_true rfl) ((c_ownedBy hn hn12)) ⟨Nat.zero_le _, Nat.zero_le _⟩ (fun _ => ?_)
      refine r_aload_n dX11_of_89 rfl (by decide) ?_
      refine r_cv0 dX11_of_90 clX11_336 sf429 (by decide) (by decide) rfl (by first | decide | omega) (Nat.le_of_ble_eq_true rfl) ((c_there hn hn12)) ⟨Nat.zero_le _, Nat.zero_le _⟩ (fun _ => ?_)
      refine r_iand dX11_of_93 rfl ?_
      refine r_cv1 dX11_of_94 clX11_390 sf429 (by decide) (by decide) rfl (by first | decide | omega) (Nat.le_of_ble_eq_true rfl) ((m_worthOf hn hn12 (fun c h0 h1 => wc_5 h.1 (by omega)))) ⟨Nat.zero_le _, Nat.zero_le _⟩ (fun _ => ?_)
      refine r_iret dX11_of_97 rfl ?_
      exact ⟨by unfold oOfV; rw [if_pos (by omega), if_neg (by omega), if_neg (by omega), if_neg (by omega), if_neg (by omega), if_pos (by omega)], rfl, rfl⟩
    · refine r_tabEq (tgt := 98) dX11_of_13 hsw (by decide) (by decide) rfl (by decide) ?_
      refine r_aload_n dX11_of_98 rfl (by decide) ?_
      refine r_iload_n dX11_of_99 rfl ?_
      refine r_cv1 dX11_of_100 clX11_393 sf429 (by decide) (by decide) rfl (by first | decide | omega) (Nat.le_of_ble_eq_true rfl) ((m_spanOf hn hn12)) ⟨Nat.zero_le _, Nat.zero_le _⟩ (fun _ => ?_)
      refine r_iret dX11_of_103 rfl ?_
      exact ⟨by unfold oOfV; rw [if_pos (by omega), if_neg (by omega), if_neg (by omega), if_neg (by omega), if_neg (by omega), if_neg (by omega), if_pos (by omega)], rfl, rfl⟩
  · try have h5 := bi_0.mp h5
    refine r_sipush dX11_of_8 (by decide) (by decide) ?_
    refine r_iret dX11_of_11 rfl ?_
    exact ⟨by unfold oOfV; rw [if_neg (by omega)], rfl, rfl⟩
theorem m_ofCrease {x y z : Int} {M : Me} (h : HY M) {n : Nat} (hn : M 430 14 = (n : Int)) (hn12 : n ≤ 12) {c w : Int} : Con kX11_ofCrease 5 0 0 [(1, 429), (0, c), (0, w)] (Sf x y z) M (Ex (some (0, oOcV M n c w)) (Sf x y z) (oOcM M n c w)) := by
  refine Con.ofV (al := [(1, 429), (0, c), (0, w)]) 0 (by decide) (Nat.le_of_ble_eq_true rfl) rfl ?_
  have h14 := wa_14 h.1
  refine r_aload_n dX11_ofCrease_0 rfl (by decide) ?_
  refine r_iload_n dX11_ofCrease_1 rfl ?_
  refine r_cv1 dX11_ofCrease_2 clX11_81 sf429 (by decide) (by decide) rfl (by first | decide | omega) (Nat.le_of_ble_eq_true rfl) ((m_isCrease (wa_14 h.1))) ⟨Nat.zero_le _, Nat.zero_le _⟩ (fun _ => ?_)
  refine r_if_ne (tgt := 12) dX11_ofCrease_5 (by decide) (fun h5 => ?_) (fun h5 => ?_)
  · try have h5 := bi_1.mp h5
    refine r_iload_n dX11_ofCrease_12 rfl ?_
    rcases (show (w < 0 ∨ 8 < w) ∨ w = 0 ∨ w = 1 ∨ w = 2 ∨ w = 3 ∨ w = 4 ∨ w = 5 ∨ w = 6 ∨ w = 7 ∨ w = 8 by omega) with hsw | hsw | hsw | hsw | hsw | hsw | hsw | hsw | hsw | hsw
    · refine r_tabOut (tgt := 131) dX11_ofCrease_13 hsw (by decide) ?_
      refine r_sipush dX11_ofCrease_131 (by decide) (by decide) ?_
      refine r_iret dX11_ofCrease_134 rfl ?_
      exact ⟨by unfold oOcV; rw [if_pos (by omega), if_neg (by omega), if_neg (by omega), if_neg (by omega), if_neg (by omega), if_neg (by omega), if_neg (by omega), if_neg (by omega), if_neg (by omega), if_neg (by omega)], rfl, by unfold oOcM; rw [if_pos (by omega), if_neg (by omega), if_neg (by omega), if_neg (by omega)]⟩
    · refine r_tabEq (tgt := 64) dX11_ofCrease_13 hsw (by decide) (by decide) rfl (by decide) ?_
      refine r_aload_n dX11_ofCrease_64 rfl (by decide) ?_
      refine r_iload_n dX11_ofCrease_65 rfl ?_
      refine r_iconst dX11_ofCrease_66 (by decide) ?_
      refine r_cv2 dX11_ofCrease_67 clX11_66 sf429 (by decide) (by decide) rfl (by first | decide | omega) (Nat.le_of_ble_eq_true rfl) ((c_get (by omega) (by decide))) ⟨Nat.zero_le _, Nat.zero_le _⟩ (fun _ => ?_)
      refine r_iret dX11_ofCrease_70 rfl ?_
      exact ⟨by unfold oOcV; rw [if_pos (by omega), if_pos (by omega)], rfl, by unfold oOcM; rw [if_pos (by omega), if_neg (by omega), if_neg (by omega), if_neg (by omega)]⟩
    · refine r_tabEq (tgt := 71) dX11_ofCrease_13 hsw (by decide) (by decide) rfl (by decide) ?_
      refine r_aload_n dX11_ofCrease_71 rfl (by decide) ?_
      refine r_iload_n dX11_ofCrease_72 rfl ?_
      refine r_iconst dX11_ofCrease_73 (by decide) ?_
      refine r_cv2 dX11_ofCrease_74 clX11_66 sf429 (by decide) (by decide) rfl (by first | decide | omega) (Nat.le_of_ble_eq_true rfl) ((c_get (by omega) (by decide))) ⟨Nat.zero_le _, Nat.zero_le _⟩ (fun _ => ?_)
      refine r_iret dX11_ofCrease_77 rfl ?_
      exact ⟨by unfold oOcV; rw [if_pos (by omega), if_neg (by omega), if_pos (by omega)], rfl, by unfold oOcM; rw [if_pos (by omega), if_neg (by omega), if_neg (by omega), if_neg (by omega)]⟩
    · refine r_tabEq (tgt := 78) dX11_ofCrease_13 hsw (by decide) (by decide) rfl (by decide) ?_
      refine r_aload_n dX11_ofCrease_78 rfl (by decide) ?_
      refine r_iload_n dX11_ofCrease_79 rfl ?_
      refine r_iconst dX11_ofCrease_80 (by decide) ?_
      refine r_cv2 dX11_ofCrease_81 clX11_66 sf429 (by decide) (by decide) rfl (by first | decide | omega) (Nat.le_of_ble_eq_true rfl) ((c_get (by omega) (by decide))) ⟨Nat.zero_le _, Nat.zero_le _⟩ (fun _ => ?_)
      refine r_iret dX11_ofCrease_84 rfl ?_
      exact ⟨by unfold oOcV; rw [if_pos (by omega), if_neg (by omega), if_neg (by omega), if_pos (by omega)], rfl, by unfold oOcM; rw [if_pos (by omega), if_neg (by omega), if_neg (by omega), if_neg (by omega)]⟩
    · refine r_tabEq (tgt := 85) dX11_ofCrease_13 hsw (by decide) (by decide) rfl (by decide) ?_
      refine r_aload_n dX11_ofCrease_85 rfl (by decide) ?_
      refine r_iload_n dX11_ofCrease_86 rfl ?_
      refine r_iconst dX11_ofCrease_87 (by decide) ?_
      refine r_cv2 dX11_ofCrease_88 clX11_66 sf429 (by decide) (by decide) rfl (by first | decide | omega) (Nat.le_of_ble_eq_true rfl) ((c_get (by omega) (by decide))) ⟨Nat.zero_le _, Nat.zero_le _⟩ (fun _ => ?_)
      refine r_iret dX11_ofCrease_91 rfl ?_
      exact ⟨by unfold oOcV; rw [if_pos (by omega), if_neg (by omega), if_neg (by omega), if_neg (by omega), if_pos (by omega)], rfl, by unfold oOcM; rw [if_pos (by omega), if_neg (by omega), if_neg (by omega), if_neg (by omega)]⟩
    · refine r_tabEq (tgt := 92) dX11_ofCrease_13 hsw (by decide) (by decide) rfl (by decide) ?_
      refine r_aload_n dX11_ofCrease_92 rfl (by decide) ?_
      refine r_iload_n dX11_ofCrease_93 rfl ?_
      refine r_iconst dX11_ofCrease_94 (by decide) ?_
      refine r_cv2 dX11_ofCrease_95 clX11_66 sf429 (by decide) (by decide) rfl (by first | decide | omega) (Nat.le_of_ble_eq_true rfl) ((c_get (by omega) (by decide))) ⟨Nat.zero_le _, Nat.zero_le _⟩ (fun _ => ?_)
      refine r_iret dX11_ofCrease_98 rfl ?_
      exact ⟨by unfold oOcV; rw [if_pos (by omega), if_neg (by omega), if_neg (by omega), if_neg (by omega), if_neg (by omega), if_pos (by omega)], rfl, by unfold oOcM; rw [if_pos (by omega), if_neg (by omega), if_neg (by omega), if_neg (by omega)]⟩
    · refine r_tabEq (tgt := 99) dX11_ofCrease_13 hsw (by decide) (by decide) rfl (by decide) ?_
      refine r_aload_n dX11_ofCrease_99 rfl (by decide) ?_
      refine r_iload_n dX11_ofCrease_100 rfl ?_
      refine r_bipush dX11_ofCrease_101 (by decide) (by decide) ?_
      refine r_cv2 dX11_ofCrease_103 clX11_66 sf429 (by decide) (by decide) rfl (by first | decide | omega) (Nat.le_of_ble_eq_true rfl) ((c_get (by omega) (by decide))) ⟨Nat.zero_le _, Nat.zero_le _⟩ (fun _ => ?_)
      refine r_iret dX11_ofCrease_106 rfl ?_
      exact ⟨by unfold oOcV; rw [if_pos (by omega), if_neg (by omega), if_neg (by omega), if_neg (by omega), if_neg (by omega), if_neg (by omega), if_pos (by omega)], rfl, by unfold oOcM; rw [if_pos (by omega), if_neg (by omega), if_neg (by omega), if_neg (by omega)]⟩
    · refine r_tabEq (tgt := 107) dX11_ofCrease_13 hsw (by decide) (by decide) rfl (by decide) ?_
      refine r_aload_n dX11_ofCrease_107 rfl (by decide) ?_
      refine r_iload_n dX11_ofCrease_108 rfl ?_
      refine r_cv1 dX11_ofCrease_109 clX11_321 sf429 (by decide) (by decide) rfl (by first | decide | omega) (Nat.le_of_ble_eq_true rfl) ((m_pressesX h hn hn12 (by omega))) ⟨Nat.zero_le _, Nat.zero_le _⟩ (fun _ => ?_)
      refine r_iret dX11_ofCrease_112 rfl ?_
      exact ⟨by unfold oOcV; rw [if_pos (by omega), if_neg (by omega), if_neg (by omega), if_neg (by omega), if_neg (by omega), if_neg (by omega), if_neg (by omega), if_pos (by omega)], rfl, by unfold oOcM; rw [if_pos (by omega), if_pos (by omega)]⟩
    · refine r_tabEq (tgt := 113) dX11_ofCrease_13 hsw (by decide) (by decide) rfl (by decide) ?_
      refine r_aload_n dX11_ofCrease_113 rfl (by decide) ?_
      refine r_iload_n dX11_ofCrease_114 rfl ?_
      refine r_cv1 dX11_ofCrease_115 clX11_324 sf429 (by decide) (by decide) rfl (by first | decide | omega) (Nat.le_of_ble_eq_true rfl) ((m_scorchesX h hn hn12 (by omega))) ⟨Nat.zero_le _, Nat.zero_le _⟩ (fun _ => ?_)
      refine r_iret dX11_ofCrease_118 rfl ?_
      exact ⟨by unfold oOcV; rw [if_pos (by omega), if_neg (by omega), if_neg (by omega), if_neg (by omega), if_neg (by omega), if_neg (by omega), if_neg (by omega), if_neg (by omega), if_pos (by omega)], rfl, by unfold oOcM; rw [if_pos (by omega), if_neg (by omega), if_pos (by omega)]⟩
    · refine r_tabEq (tgt := 119) dX11_ofCrease_13 hsw (by decide) (by decide) rfl (by decide) ?_
      refine r_aload_n dX11_ofCrease_119 rfl (by decide) ?_
      refine r_aload_n dX11_ofCrease_120 rfl (by decide) ?_
      refine r_getr (x := 430) dX11_ofCrease_121 flX11_7 sf429 (by decide) (by decide) rfl rfl ?_
      refine r_iconst dX11_ofCrease_124 (by decide) ?_
      refine r_iald dX11_ofCrease_125 sf430 (by decide) (by omega) (by omega) (by decide) rfl ?_
      refine r_iload_n dX11_ofCrease_126 rfl ?_
      refine r_cv2 dX11_ofCrease_127 clX11_333 sf429 (by decide) (by decide) rfl (by first | decide | omega) (Nat.le_of_ble_eq_true rfl) ((m_priceX h hn hn12 (by omega) h.2.1)) ⟨Nat.zero_le _, Nat.zero_le _⟩ (fun _ => ?_)
      refine r_iret dX11_ofCrease_130 rfl ?_
      exact ⟨by unfold oOcV; rw [if_pos (by omega), if_neg (by omega), if_neg (by omega), if_neg (by omega), if_neg (by omega), if_neg (by omega), if_neg (by omega), if_neg (by omega), if_neg (by omega), if_pos (by omega)], rfl, by unfold oOcM; rw [if_pos (by omega), if_neg (by omega), if_neg (by omega), if_pos (by omega)]⟩
  · try have h5 := bi_0.mp h5
    refine r_sipush dX11_ofCrease_8 (by decide) (by decide) ?_
    refine r_iret dX11_ofCrease_11 rfl ?_
    exact ⟨by unfold oOcV; rw [if_neg (by omega)], rfl, by unfold oOcM; rw [if_neg (by omega)]⟩
/-- whether so many prices are those of the text t -/
def wiS (M : Me) (n : Nat) (t : Int) : Nat → Int × Me
  | 0 => (1, M)
  | k + 1 => if (wiS M n t k).1 = 0 then (0, (wiS M n t k).2) else (bi (lwC (wiS M n t k).2 n (M 430 (176 + 2 * (k : Int))) t = M 430 (176 + 2 * (k : Int) + 1)), lxM (wiS M n t k).2 n (M 430 (176 + 2 * (k : Int))) t 2)
theorem wiS_f {M : Me} {n : Nat} {t : Int} {k : Nat} (h : (wiS M n t k).1 = 0) : wiS M n t (k + 1) = (0, (wiS M n t k).2) := if_pos h
theorem wiS_t {M : Me} {n : Nat} {t : Int} {k : Nat} (h : (wiS M n t k).1 ≠ 0) : wiS M n t (k + 1) = (bi (lwC (wiS M n t k).2 n (M 430 (176 + 2 * (k : Int))) t = M 430 (176 + 2 * (k : Int) + 1)), lxM (wiS M n t k).2 n (M 430 (176 + 2 * (k : Int))) t 2) := if_neg h
theorem wiS_o {M : Me} (h : HY M) {n : Nat} {t : Int} : ∀ k : Nat, HY (wiS M n t k).2 ∧ (∀ a j, ¬ (435 ≤ a ∧ a ≤ 437) → (wiS M n t k).2 a j = M a j) ∧ 0 ≤ (wiS M n t k).1 ∧ (wiS M n t k).1 ≤ 1 := by
  intro k
  induction k with
  | zero => exact ⟨h, fun _ _ _ => rfl, (show (0 : Int) ≤ 1 ∧ (1 : Int) ≤ 1 by decide)⟩
  | succ k ih =>
    by_cases q : (wiS M n t k).1 = 0
    · rw [wiS_f q]; exact ⟨ih.1, ih.2.1, (show (0 : Int) ≤ 0 ∧ (0 : Int) ≤ 1 by decide)⟩
    · rw [wiS_t q]; exact ⟨ih.1.lw, fun a j q2 => (lxM_o q2).trans (ih.2.1 a j q2), bi_in⟩
theorem wiS_1 {M : Me} {n : Nat} {t : Int} {k : Nat} (h : (wiS M n t k).1 ≠ 0) (e : lwC (wiS M n t k).2 n (M 430 (176 + 2 * (k : Int))) t = M 430 (176 + 2 * (k : Int) + 1)) : wiS M n t (k + 1) = (1, lxM (wiS M n t k).2 n (M 430 (176 + 2 * (k : Int))) t 2) := (wiS_t h).trans (by unfold bi; rw [if_pos e])
theorem wiS_2 {M : Me} {n : Nat} {t : Int} {k : Nat} (h : (wiS M n t k).1 ≠ 0) (e : lwC (wiS M n t k).2 n (M 430 (176 + 2 * (k : Int))) t ≠ M 430 (176 + 2 * (k : Int) + 1)) : wiS M n t (k + 1) = (0, lxM (wiS M n t k).2 n (M 430 (176 + 2 * (k : Int))) t 2) := (wiS_t h).trans (by unfold bi; rw [if_neg e])
def woU (M : Me) (n m : Nat) : Nat → Int × Me
  | 0 => (0, M)
  | t + 1 => (or32 (woU M n m t).1 (if (wiS (woU M n m t).2 n t m).1 = 0 then 0 else shl32 1 t), (wiS (woU M n m t).2 n t m).2)
theorem woU_0 {M : Me} {n m t : Nat} (h : (wiS (woU M n m t).2 n t m).1 = 0) : woU M n m (t + 1) = (or32 (woU M n m t).1 0, (wiS (woU M n m t).2 n t m).2) := congrArg (fun q => (or32 (woU M n m t).1 q, (wiS (woU M n m t).2 n t m).2)) (if_pos h)
theorem woU_1 {M : Me} {n m t : Nat} (h : (wiS (woU M n m t).2 n t m).1 ≠ 0) : woU M n m (t + 1) = (or32 (woU M n m t).1 (shl32 1 t), (wiS (woU M n m t).2 n t m).2) := congrArg (fun q => (or32 (woU M n m t).1 q, (wiS (woU M n m t).2 n t m).2)) (if_neg h)
theorem woU_o {M : Me} (h : HY M) {n m : Nat} : ∀ t : Nat, HY (woU M n m t).2 ∧ (∀ a j, ¬ (435 ≤ a ∧ a ≤ 437) → (woU M n m t).2 a j = M a j) := by
  intro t
  induction t with
  | zero => exact ⟨h, fun _ _ _ => rfl⟩
  | succ t ih =>
    have h2 := wiS_o ih.1 (n := n) (t := t) m
    exact ⟨h2.1, fun a j q2 => (h2.2.1 a j q2).trans (ih.2 a j q2)⟩
theorem l_whose1 {x y z : Int} {M : Me} (h : HY M) {n : Nat} (hn : M 430 14 = (n : Int)) (hn12 : n ≤ 12) {s t : Int} (ht : t < M 430 1) {m0 : Nat} (hm : M 430 9 = (m0 : Int)) (hm8 : m0 ≤ 8) {Q : Option AV → Sh → Me → Prop} (hQ : V kX11_whose 0 0 5 none Q 83 [(1, 429), (0, s), (0, t), (0, (wiS M n t m0).1), (9, 0)] [] (Sf x y z) (wiS M n t m0).2 0 0) : ∀ (m i : Nat), m + i = m0 → V kX11_whose 0 0 5 none Q 19 [(1, 429), (0, s), (0, t), (0, (wiS M n t i).1), (0, (i : Int))] [] (Sf x y z) (wiS M n t i).2 0 0 := by
  intro m
  induction m with
  | zero =>
    intro i hi
    obtain rfl : i = m0 := by omega
    have hI := wiS_o h (n := n) (t := t) i
    refine r_iload dX11_whose_19 rfl ?_
    refine r_aload_n dX11_whose_21 rfl (by decide) ?_
    refine r_getr (x := 430) dX11_whose_22 flX11_7 sf429 (by decide) (by decide) rfl rfl ?_
    refine r_bipush dX11_whose_25 (by decide) (by decide) ?_
    refine r_iald dX11_whose_27 sf430 (by decide) (by omega) (by omega) (by decide) ((hI.2.1 430 9 (by omega)).trans hm) ?_
    refine r_icmp_ge (tgt := 83) dX11_whose_28 (by decide) (fun h28 => ?_) (fun h28 => by exfalso; omega)
    exact wk4 hQ
  | succ m ih =>
    intro i hi
    have hI := wiS_o h (n := n) (t := t) i
    have h14 : (wiS M n t i).2 430 14 = (n : Int) := (hI.2.1 430 14 (by omega)).trans hn
    have ht2 : t < (wiS M n t i).2 430 1 := by rw [hI.2.1 430 1 (by omega)]; exact ht
    have hd := wd_0 h.1 (c := (i : Int)) (by omega)
    have hd2 : 0 ≤ M 430 (176 + 2 * (i : Int)) ∧ M 430 (176 + 2 * (i : Int)) < 12 := by
      rw [show 176 + 2 * (i : Int) = 176 + 2 * (i : Int) + 0 by omega]; omega
    refine r_iload dX11_whose_19 rfl ?_
    refine r_aload_n dX11_whose_21 rfl (by decide) ?_
    refine r_getr (x := 430) dX11_whose_22 flX11_7 sf429 (by decide) (by decide) rfl rfl ?_
    refine r_bipush dX11_whose_25 (by decide) (by decide) ?_
    refine r_iald dX11_whose_27 sf430 (by decide) (by omega) (by omega) (by decide) ((hI.2.1 430 9 (by omega)).trans hm) ?_
    refine r_icmp_ge (tgt := 83) dX11_whose_28 (by decide) (fun h28 => by exfalso; omega) (fun h28 => ?_)
    refine r_iload_n dX11_whose_31 rfl ?_
    refine r_if_eq (tgt := 75) dX11_whose_32 (by decide) (fun h32 => ?_) (fun h32 => ?_)
    · refine r_iconst dX11_whose_75 (by decide) ?_
      have ihh := ih (i + 1) (by omega)
      first
      | rw [wiS_f (by assumption)] at ihh
        refine r_istore_n dX11_whose_76 rfl (by decide) st3 ?_
        refine r_iinc dX11_whose_77 rfl rfl (by decide) (w32_id (by omega)) st4 ?_
        refine r_goto (tgt := 19) dX11_whose_80 (by decide) ?_
        exact ihh
      | rw [wiS_1 (by assumption) (by assumption)] at ihh
        refine r_istore_n dX11_whose_76 rfl (by decide) st3 ?_
        refine r_iinc dX11_whose_77 rfl rfl (by decide) (w32_id (by omega)) st4 ?_
        refine r_goto (tgt := 19) dX11_whose_80 (by decide) ?_
        exact ihh
      | rw [wiS_2 (by assumption) (by assumption)] at ihh
        refine r_istore_n dX11_whose_76 rfl (by decide) st3 ?_
        refine r_iinc dX11_whose_77 rfl rfl (by decide) (w32_id (by omega)) st4 ?_
        refine r_goto (tgt := 19) dX11_whose_80 (by decide) ?_
        exact ihh
    · refine r_aload_n dX11_whose_35 rfl (by decide) ?_
      refine r_iload_n dX11_whose_36 rfl ?_
      refine r_aload_n dX11_whose_37 rfl (by decide) ?_
      refine r_getr (x := 430) dX11_whose_38 flX11_7 sf429 (by decide) (by decide) rfl rfl ?_
      refine r_sipush dX11_whose_41 (by decide) (by decide) ?_
      refine r_iconst dX11_whose_44 (by decide) ?_
      refine r_iload dX11_whose_45 rfl ?_
      refine r_imul dX11_whose_47 (w32_id (by omega)) ?_
      refine r_iadd dX11_whose_48 (w32_id (by omega)) ?_
      refine r_iald dX11_whose_49 sf430 (by decide) (by omega) (by omega) (by decide) (hI.2.1 430 _ (by omega)) ?_
      refine r_cv2 dX11_whose_50 clX11_333 sf429 (by decide) (by decide) rfl (by first | decide | omega) (Nat.le_of_ble_eq_true rfl) ((m_priceX hI.1 h14 hn12 hd2 ht2)) ⟨Nat.zero_le _, Nat.zero_le _⟩ (fun _ => ?_)
      refine r_aload_n dX11_whose_53 rfl (by decide) ?_
      refine r_getr (x := 430) dX11_whose_54 flX11_7 sf429 (by decide) (by decide) rfl rfl ?_
      refine r_sipush dX11_whose_57 (by decide) (by decide) ?_
      refine r_iconst dX11_whose_60 (by decide) ?_
      refine r_iload dX11_whose_61 rfl ?_
      refine r_imul dX11_whose_63 (w32_id (by omega)) ?_
      refine r_iadd dX11_whose_64 (w32_id (by omega)) ?_
      refine r_iconst dX11_whose_65 (by decide) ?_
      refine r_iadd dX11_whose_66 (w32_id (by omega)) ?_
      refine r_iald dX11_whose_67 sf430 (by decide) (by omega) (by omega) (by decide) ((lxM_o (by omega)).trans (hI.2.1 430 _ (by omega))) ?_
      refine r_icmp_ne (tgt := 75) dX11_whose_68 (by decide) (fun h68 => ?_) (fun h68 => ?_)
      · refine r_iconst dX11_whose_75 (by decide) ?_
        have ihh := ih (i + 1) (by omega)
        first
        | rw [wiS_f (by assumption)] at ihh
          refine r_istore_n dX11_whose_76 rfl (by decide) st3 ?_
          refine r_iinc dX11_whose_77 rfl rfl (by decide) (w32_id (by omega)) st4 ?_
          refine r_goto (tgt := 19) dX11_whose_80 (by decide) ?_
          exact ihh
        | rw [wiS_1 (by assumption) (by assumption)] at ihh
          refine r_istore_n dX11_whose_76 rfl (by decide) st3 ?_
          refine r_iinc dX11_whose_77 rfl rfl (by decide) (w32_id (by omega)) st4 ?_
          refine r_goto (tgt := 19) dX11_whose_80 (by decide) ?_
          exact ihh
        | rw [wiS_2 (by assumption) (by assumption)] at ihh
          refine r_istore_n dX11_whose_76 rfl (by decide) st3 ?_
          refine r_iinc dX11_whose_77 rfl rfl (by decide) (w32_id (by omega)) st4 ?_
          refine r_goto (tgt := 19) dX11_whose_80 (by decide) ?_
          exact ihh
      · refine r_iconst dX11_whose_71 (by decide) ?_
        refine r_goto (tgt := 76) dX11_whose_72 (by decide) ?_
        have ihh := ih (i + 1) (by omega)
        first
        | rw [wiS_f (by assumption)] at ihh
          refine r_istore_n dX11_whose_76 rfl (by decide) st3 ?_
          refine r_iinc dX11_whose_77 rfl rfl (by decide) (w32_id (by omega)) st4 ?_
          refine r_goto (tgt := 19) dX11_whose_80 (by decide) ?_
          exact ihh
        | rw [wiS_1 (by assumption) (by assumption)] at ihh
          refine r_istore_n dX11_whose_76 rfl (by decide) st3 ?_
          refine r_iinc dX11_whose_77 rfl rfl (by decide) (w32_id (by omega)) st4 ?_
          refine r_goto (tgt := 19) dX11_whose_80 (by decide) ?_
          exact ihh
        | rw [wiS_2 (by assumption) (by assumption)] at ihh
          refine r_istore_n dX11_whose_76 rfl (by decide) st3 ?_
          refine r_iinc dX11_whose_77 rfl rfl (by decide) (w32_id (by omega)) st4 ?_
          refine r_goto (tgt := 19) dX11_whose_80 (by decide) ?_
          exact ihh
theorem l_whose2 {x y z : Int} {M : Me} (h : HY M) {n : Nat} (hn : M 430 14 = (n : Int)) (hn12 : n ≤ 12) {m0 N : Nat} (hm : M 430 9 = (m0 : Int)) (hm8 : m0 ≤ 8) (hN : M 430 1 = (N : Int)) (hN4 : N ≤ 4) : ∀ (m i : Nat) (l3 : AV), m + i = N → V kX11_whose 0 0 5 none (Ex (some (0, (woU M n m0 N).1)) (Sf x y z) (woU M n m0 N).2) 4 [(1, 429), (0, (woU M n m0 i).1), (0, (i : Int)), l3, (9, 0)] [] (Sf x y z) (woU M n m0 i).2 0 0 := by
  intro m
  induction m with
  | zero =>
    intro i l3 hi
    obtain rfl : i = N := by omega
    have hI := woU_o h (n := n) (m := m0) i
    refine r_iload_n dX11_whose_4 rfl ?_
    refine r_aload_n dX11_whose_5 rfl (by decide) ?_
    refine r_getr (x := 430) dX11_whose_6 flX11_7 sf429 (by decide) (by decide) rfl rfl ?_
    refine r_iconst dX11_whose_9 (by decide) ?_
    refine r_iald dX11_whose_10 sf430 (by decide) (by omega) (by omega) (by decide) ((hI.2 430 1 (by omega)).trans hN) ?_
    refine r_icmp_ge (tgt := 103) dX11_whose_11 (by decide) (fun h11 => ?_) (fun h11 => by exfalso; omega)
    refine r_iload_n dX11_whose_103 rfl ?_
    refine r_iret dX11_whose_104 rfl ?_
    exact ⟨rfl, rfl, rfl⟩
  | succ m ih =>
    intro i l3 hi
    have hI := woU_o h (n := n) (m := m0) i
    have h14 : (woU M n m0 i).2 430 14 = (n : Int) := (hI.2 430 14 (by omega)).trans hn
    have h9 : (woU M n m0 i).2 430 9 = (m0 : Int) := (hI.2 430 9 (by omega)).trans hm
    have hi2 : (i : Int) < (woU M n m0 i).2 430 1 := by rw [hI.2 430 1 (by omega)]; omega
    have ihh := ih (i + 1) (0, (wiS (woU M n m0 i).2 n i m0).1) (by omega)
    refine r_iload_n dX11_whose_4 rfl ?_
    refine r_aload_n dX11_whose_5 rfl (by decide) ?_
    refine r_getr (x := 430) dX11_whose_6 flX11_7 sf429 (by decide) (by decide) rfl rfl ?_
    refine r_iconst dX11_whose_9 (by decide) ?_
    refine r_iald dX11_whose_10 sf430 (by decide) (by omega) (by omega) (by decide) ((hI.2 430 1 (by omega)).trans hN) ?_
    refine r_icmp_ge (tgt := 103) dX11_whose_11 (by decide) (fun h11 => by exfalso; omega) (fun h11 => ?_)
    refine r_iconst dX11_whose_14 (by decide) ?_
    refine r_istore_n dX11_whose_15 rfl (by decide) st3 ?_
    refine r_iconst dX11_whose_16 (by decide) ?_
    refine r_istore dX11_whose_17 rfl (by decide) st4 ?_
    refine l_whose1 hI.1 h14 hn12 hi2 h9 hm8 ?_ m0 0 (by omega)
    refine r_iload_n dX11_whose_83 rfl ?_
    refine r_iload_n dX11_whose_84 rfl ?_
    refine r_if_eq (tgt := 94) dX11_whose_85 (by decide) (fun h85 => ?_) (fun h85 => ?_)
    · refine r_iconst dX11_whose_94 (by decide) ?_
      refine r_ior dX11_whose_95 rfl ?_
      refine r_istore_n dX11_whose_96 rfl (by decide) st1 ?_
      refine r_iinc dX11_whose_97 rfl rfl (by decide) (w32_id (by omega)) st2 ?_
      refine r_goto (tgt := 4) dX11_whose_100 (by decide) ?_
      first | (rw [show (woU M n m0 (i + 1)) = _ from woU_0 (by assumption)] at ihh; exact ihh) | (rw [show (woU M n m0 (i + 1)) = _ from woU_1 (by assumption)] at ihh; exact ihh)
    · refine r_iconst dX11_whose_88 (by decide) ?_
      refine r_iload_n dX11_whose_89 rfl ?_
      refine r_ishl dX11_whose_90 rfl ?_
      refine r_goto (tgt := 95) dX11_whose_91 (by decide) ?_
      refine r_ior dX11_whose_95 rfl ?_
      refine r_istore_n dX11_whose_96 rfl (by decide) st1 ?_
      refine r_iinc dX11_whose_97 rfl rfl (by decide) (w32_id (by omega)) st2 ?_
      refine r_goto (tgt := 4) dX11_whose_100 (by decide) ?_
      first | (rw [show (woU M n m0 (i + 1)) = _ from woU_0 (by assumption)] at ihh; exact ihh) | (rw [show (woU M n m0 (i + 1)) = _ from woU_1 (by assumption)] at ihh; exact ihh)
theorem m_whose {x y z : Int} {M : Me} (h : HY M) {n : Nat} (hn : M 430 14 = (n : Int)) (hn12 : n ≤ 12) {m0 N : Nat} (hm : M 430 9 = (m0 : Int)) (hm8 : m0 ≤ 8) (hN : M 430 1 = (N : Int)) (hN4 : N ≤ 4) : Con kX11_whose 5 0 0 [(1, 429)] (Sf x y z) M (Ex (some (0, (woU M n m0 N).1)) (Sf x y z) (woU M n m0 N).2) := by
  refine Con.ofV (al := [(1, 429), (9, 0), (9, 0), (9, 0), (9, 0)]) 4 (by decide) (Nat.le_of_ble_eq_true rfl) rfl ?_
  refine r_iconst dX11_whose_0 (by decide) ?_
  refine r_istore_n dX11_whose_1 rfl (by decide) st1 ?_
  refine r_iconst dX11_whose_2 (by decide) ?_
  refine r_istore_n dX11_whose_3 rfl (by decide) st2 ?_
  exact l_whose2 h hn hn12 hm hm8 hN hN4 N 0 (9, 0) (by omega)
