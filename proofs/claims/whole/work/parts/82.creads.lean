def foV (M : Me) (n : Nat) (p u : Int) : Int := if ¬ (0 ≤ p ∧ p < M 50 2) then -1000 else if u = 0 then M 207 p else if u = 1 then M 51 p else if u = 2 then bset (fun c : Int => M 209 c = p) (fun c => c) n else if u = 3 then and32 (bset (fun c : Int => M 209 c = p) (fun c => c) n) (bset (fun c : Int => M 52 c = 0) (fun c => c) n) else if u = 4 then wsC M n (and32 (bset (fun c : Int => M 209 c = p) (fun c => c) n) (bset (fun c : Int => M 52 c = 0) (fun c => c) n)) else if u = 5 then (lsC M n p 100).1 else -1000
theorem f_of {x y z : Int} {M : Me} (h : CI M) {p u : Int} {n : Nat} (hn : M 50 3 = (n : Int)) (hn12 : n ≤ 12) : Con kX10_of 3 0 0 [(1, 0), (0, p), (0, u)] (Sf x y z) M (Ex (some (0, foV M n p u)) (Sf x y z) M) := by
  refine Con.ofV (al := [(1, 0), (0, p), (0, u)]) 0 (by decide) (Nat.le_of_ble_eq_true rfl) rfl ?_
  have hp := h.p
  have hw : ∀ c : Int, 0 ≤ c → c < n → -9 ≤ M 212 c ∧ M 212 c ≤ 9 := fun c h0 h1 => (h.2.1 c h0 (by omega)).2.2.2.2.2.2.1
  refine r_aload_n dX10_of_0 rfl (by decide) ?_
  refine r_getr (x := 49) dX10_of_1 flX10_52 sf0 (by decide) (by decide) rfl rfl ?_
  refine r_iload_n dX10_of_4 rfl ?_
  refine r_cv1 dX10_of_5 clX10_147 sf49 (by decide) (by decide) rfl (by first | decide | omega) (Nat.le_of_ble_eq_true rfl) (s_isPerson) ⟨Nat.zero_le _, Nat.zero_le _⟩ (fun _ => ?_)
  refine r_if_ne (tgt := 15) dX10_of_8 (by decide) (fun h8 => ?_) (fun h8 => ?_)
  · try have h8 := bi_1.mp h8
    refine r_iload_n dX10_of_15 rfl ?_
    rcases (show (u < 0 ∨ 5 < u) ∨ u = 0 ∨ u = 1 ∨ u = 2 ∨ u = 3 ∨ u = 4 ∨ u = 5 by omega) with hsw | hsw | hsw | hsw | hsw | hsw | hsw
    · refine r_tabOut (tgt := 142) dX10_of_16 hsw (by decide) ?_
      refine r_sipush dX10_of_142 (by decide) (by decide) ?_
      refine r_iret dX10_of_145 rfl ?_
      first | (exfalso; omega) | exact ⟨by unfold foV; rw [if_neg (by first | omega | assumption), if_neg (by first | omega | assumption), if_neg (by first | omega | assumption), if_neg (by first | omega | assumption), if_neg (by first | omega | assumption), if_neg (by first | omega | assumption), if_neg (by first | omega | assumption)], rfl, rfl⟩
    · refine r_tabEq (tgt := 56) dX10_of_16 hsw (by decide) (by decide) rfl (by decide) ?_
      refine r_aload_n dX10_of_56 rfl (by decide) ?_
      refine r_getr (x := 49) dX10_of_57 flX10_52 sf0 (by decide) (by decide) rfl rfl ?_
      refine r_getr (x := 207) dX10_of_60 flX10_150 sf49 (by decide) (by decide) rfl rfl ?_
      refine r_iload_n dX10_of_63 rfl ?_
      refine r_iald dX10_of_64 sf207 (by decide) (by omega) (by omega) (by decide) rfl ?_
      refine r_iret dX10_of_65 rfl ?_
      first | (exfalso; omega) | exact ⟨by unfold foV; rw [if_neg (by first | omega | assumption), if_pos (by first | omega | assumption)], rfl, rfl⟩
    · refine r_tabEq (tgt := 66) dX10_of_16 hsw (by decide) (by decide) rfl (by decide) ?_
      refine r_aload_n dX10_of_66 rfl (by decide) ?_
      refine r_getr (x := 49) dX10_of_67 flX10_52 sf0 (by decide) (by decide) rfl rfl ?_
      refine r_getr (x := 50) dX10_of_70 flX10_105 sf49 (by decide) (by decide) rfl rfl ?_
      refine r_getr (x := 51) dX10_of_73 flX10_153 sf50 (by decide) (by decide) rfl rfl ?_
      refine r_iload_n dX10_of_76 rfl ?_
      refine r_iald dX10_of_77 sf51 (by decide) (by omega) (by omega) (by decide) rfl ?_
      refine r_iret dX10_of_78 rfl ?_
      first | (exfalso; omega) | exact ⟨by unfold foV; rw [if_neg (by first | omega | assumption), if_neg (by first | omega | assumption), if_pos (by first | omega | assumption)], rfl, rfl⟩
    · refine r_tabEq (tgt := 79) dX10_of_16 hsw (by decide) (by decide) rfl (by decide) ?_
      refine r_aload_n dX10_of_79 rfl (by decide) ?_
      refine r_getr (x := 49) dX10_of_80 flX10_52 sf0 (by decide) (by decide) rfl rfl ?_
      refine r_iload_n dX10_of_83 rfl ?_
      refine r_cv1 dX10_of_84 clX10_156 sf49 (by decide) (by decide) rfl (by first | decide | omega) (Nat.le_of_ble_eq_true rfl) ((s_creasesOf hn hn12)) ⟨Nat.zero_le _, Nat.zero_le _⟩ (fun _ => ?_)
      refine r_iret dX10_of_87 rfl ?_
      first | (exfalso; omega) | exact ⟨by unfold foV; rw [if_neg (by first | omega | assumption), if_neg (by first | omega | assumption), if_neg (by first | omega | assumption), if_pos (by first | omega | assumption)], rfl, rfl⟩
    · refine r_tabEq (tgt := 88) dX10_of_16 hsw (by decide) (by decide) rfl (by decide) ?_
      refine r_aload_n dX10_of_88 rfl (by decide) ?_
      refine r_getr (x := 49) dX10_of_89 flX10_52 sf0 (by decide) (by decide) rfl rfl ?_
      refine r_iload_n dX10_of_92 rfl ?_
      refine r_cv1 dX10_of_93 clX10_156 sf49 (by decide) (by decide) rfl (by first | decide | omega) (Nat.le_of_ble_eq_true rfl) ((s_creasesOf hn hn12)) ⟨Nat.zero_le _, Nat.zero_le _⟩ (fun _ => ?_)
      refine r_aload_n dX10_of_96 rfl (by decide) ?_
      refine r_getr (x := 49) dX10_of_97 flX10_52 sf0 (by decide) (by decide) rfl rfl ?_
      refine r_cv0 dX10_of_100 clX10_159 sf49 (by decide) (by decide) rfl (by first | decide | omega) (Nat.le_of_ble_eq_true rfl) ((s_allThere hn hn12)) ⟨Nat.zero_le _, Nat.zero_le _⟩ (fun _ => ?_)
      refine r_iand dX10_of_103 rfl ?_
      refine r_iret dX10_of_104 rfl ?_
      first | (exfalso; omega) | exact ⟨by unfold foV; rw [if_neg (by first | omega | assumption), if_neg (by first | omega | assumption), if_neg (by first | omega | assumption), if_neg (by first | omega | assumption), if_pos (by first | omega | assumption)], rfl, rfl⟩
    · refine r_tabEq (tgt := 105) dX10_of_16 hsw (by decide) (by decide) rfl (by decide) ?_
      refine r_aload_n dX10_of_105 rfl (by decide) ?_
      refine r_getr (x := 49) dX10_of_106 flX10_52 sf0 (by decide) (by decide) rfl rfl ?_
      refine r_aload_n dX10_of_109 rfl (by decide) ?_
      refine r_getr (x := 49) dX10_of_110 flX10_52 sf0 (by decide) (by decide) rfl rfl ?_
      refine r_iload_n dX10_of_113 rfl ?_
      refine r_cv1 dX10_of_114 clX10_156 sf49 (by decide) (by decide) rfl (by first | decide | omega) (Nat.le_of_ble_eq_true rfl) ((s_creasesOf hn hn12)) ⟨Nat.zero_le _, Nat.zero_le _⟩ (fun _ => ?_)
      refine r_aload_n dX10_of_117 rfl (by decide) ?_
      refine r_getr (x := 49) dX10_of_118 flX10_52 sf0 (by decide) (by decide) rfl rfl ?_
      refine r_cv0 dX10_of_121 clX10_159 sf49 (by decide) (by decide) rfl (by first | decide | omega) (Nat.le_of_ble_eq_true rfl) ((s_allThere hn hn12)) ⟨Nat.zero_le _, Nat.zero_le _⟩ (fun _ => ?_)
      refine r_iand dX10_of_124 rfl ?_
      refine r_cv1 dX10_of_125 clX10_162 sf49 (by decide) (by decide) rfl (by first | decide | omega) (Nat.le_of_ble_eq_true rfl) ((c_worthOf hn hn12 hw)) ⟨Nat.zero_le _, Nat.zero_le _⟩ (fun _ => ?_)
      refine r_iret dX10_of_128 rfl ?_
      first | (exfalso; omega) | exact ⟨by unfold foV; rw [if_neg (by first | omega | assumption), if_neg (by first | omega | assumption), if_neg (by first | omega | assumption), if_neg (by first | omega | assumption), if_neg (by first | omega | assumption), if_pos (by first | omega | assumption)], rfl, rfl⟩
    · refine r_tabEq (tgt := 129) dX10_of_16 hsw (by decide) (by decide) rfl (by decide) ?_
      refine r_aload_n dX10_of_129 rfl (by decide) ?_
      refine r_getr (x := 12) dX10_of_130 flX10_39 sf0 (by decide) (by decide) rfl rfl ?_
      refine r_aload_n dX10_of_133 rfl (by decide) ?_
      refine r_getr (x := 49) dX10_of_134 flX10_52 sf0 (by decide) (by decide) rfl rfl ?_
      refine r_iload_n dX10_of_137 rfl ?_
      refine r_cv2 dX10_of_138 clX10_165 sf12 (by decide) (by decide) rfl (by first | decide | omega) (Nat.le_of_ble_eq_true rfl) ((c_longest hn hn12)) ⟨Nat.zero_le _, Nat.zero_le _⟩ (fun _ => ?_)
      refine r_iret dX10_of_141 rfl ?_
      first | (exfalso; omega) | exact ⟨by unfold foV; rw [if_neg (by first | omega | assumption), if_neg (by first | omega | assumption), if_neg (by first | omega | assumption), if_neg (by first | omega | assumption), if_neg (by first | omega | assumption), if_neg (by first | omega | assumption), if_pos (by first | omega | assumption)], rfl, rfl⟩
  · try have h8 := bi_0.mp h8
    refine r_sipush dX10_of_11 (by decide) (by decide) ?_
    refine r_iret dX10_of_14 rfl ?_
    first | (exfalso; omega) | exact ⟨by unfold foV; rw [if_pos (by first | omega | assumption)], rfl, rfl⟩
def fcV (M : Me) (c u : Int) : Int := if ¬ (0 ≤ c ∧ c < M 50 3) then -1000 else if u = 0 then M 209 c else if u = 1 then M 210 c else if u = 2 then M 53 c else if u = 3 then M 212 c else if u = 4 then M 52 c else if u = 5 then M 213 c else if u = 6 then blC M 0 c (M 49 2) else if u = 7 then blC M 1 c (M 49 2) else if u = 8 then blC M 2 c (M 49 2) else -1000
def fcM (M : Me) (c u : Int) : Me := if ¬ (0 ≤ c ∧ c < M 50 3) then M else if u = 6 then blM M 0 c (M 49 2) else if u = 7 then blM M 1 c (M 49 2) else if u = 8 then blM M 2 c (M 49 2) else M
theorem f_ofCrease {x y z : Int} {M : Me} (h : CI M) {c u : Int} : Con kX10_ofCrease 5 0 0 [(1, 0), (0, c), (0, u)] (Sf x y z) M (Ex (some (0, fcV M c u)) (Sf x y z) (fcM M c u)) := by
  refine Con.ofV (al := [(1, 0), (0, c), (0, u)]) 0 (by decide) (Nat.le_of_ble_eq_true rfl) rfl ?_
  have h3 := h.c
  refine r_aload_n dX10_ofCrease_0 rfl (by decide) ?_
  refine r_getr (x := 49) dX10_ofCrease_1 flX10_52 sf0 (by decide) (by decide) rfl rfl ?_
  refine r_iload_n dX10_ofCrease_4 rfl ?_
  refine r_cv1 dX10_ofCrease_5 clX10_169 sf49 (by decide) (by decide) rfl (by first | decide | omega) (Nat.le_of_ble_eq_true rfl) (s_isCrease) ⟨Nat.zero_le _, Nat.zero_le _⟩ (fun _ => ?_)
  refine r_if_ne (tgt := 15) dX10_ofCrease_8 (by decide) (fun h8 => ?_) (fun h8 => ?_)
  · try have h8 := bi_1.mp h8
    refine r_iload_n dX10_ofCrease_15 rfl ?_
    rcases (show (u < 0 ∨ 8 < u) ∨ u = 0 ∨ u = 1 ∨ u = 2 ∨ u = 3 ∨ u = 4 ∨ u = 5 ∨ u = 6 ∨ u = 7 ∨ u = 8 by omega) with hsw | hsw | hsw | hsw | hsw | hsw | hsw | hsw | hsw | hsw
    · refine r_tabOut (tgt := 185) dX10_ofCrease_16 hsw (by decide) ?_
      refine r_sipush dX10_ofCrease_185 (by decide) (by decide) ?_
      refine r_iret dX10_ofCrease_188 rfl ?_
      exact ⟨by unfold fcV; rw [if_neg (by first | omega | assumption), if_neg (by first | omega | assumption), if_neg (by first | omega | assumption), if_neg (by first | omega | assumption), if_neg (by first | omega | assumption), if_neg (by first | omega | assumption), if_neg (by first | omega | assumption), if_neg (by first | omega | assumption), if_neg (by first | omega | assumption), if_neg (by first | omega | assumption)], rfl, by unfold fcM; rw [if_neg (by first | omega | assumption), if_neg (by first | omega | assumption), if_neg (by first | omega | assumption), if_neg (by first | omega | assumption)]⟩
    · refine r_tabEq (tgt := 68) dX10_ofCrease_16 hsw (by decide) (by decide) rfl (by decide) ?_
      refine r_aload_n dX10_ofCrease_68 rfl (by decide) ?_
      refine r_getr (x := 49) dX10_ofCrease_69 flX10_52 sf0 (by decide) (by decide) rfl rfl ?_
      refine r_getr (x := 209) dX10_ofCrease_72 flX10_172 sf49 (by decide) (by decide) rfl rfl ?_
      refine r_iload_n dX10_ofCrease_75 rfl ?_
      refine r_iald dX10_ofCrease_76 sf209 (by decide) (by omega) (by omega) (by decide) rfl ?_
      refine r_iret dX10_ofCrease_77 rfl ?_
      exact ⟨by unfold fcV; rw [if_neg (by first | omega | assumption), if_pos (by first | omega | assumption)], rfl, by unfold fcM; rw [if_neg (by first | omega | assumption), if_neg (by first | omega | assumption), if_neg (by first | omega | assumption), if_neg (by first | omega | assumption)]⟩
    · refine r_tabEq (tgt := 78) dX10_ofCrease_16 hsw (by decide) (by decide) rfl (by decide) ?_
      refine r_aload_n dX10_ofCrease_78 rfl (by decide) ?_
      refine r_getr (x := 49) dX10_ofCrease_79 flX10_52 sf0 (by decide) (by decide) rfl rfl ?_
      refine r_getr (x := 210) dX10_ofCrease_82 flX10_175 sf49 (by decide) (by decide) rfl rfl ?_
      refine r_iload_n dX10_ofCrease_85 rfl ?_
      refine r_iald dX10_ofCrease_86 sf210 (by decide) (by omega) (by omega) (by decide) rfl ?_
      refine r_iret dX10_ofCrease_87 rfl ?_
      exact ⟨by unfold fcV; rw [if_neg (by first | omega | assumption), if_neg (by first | omega | assumption), if_pos (by first | omega | assumption)], rfl, by unfold fcM; rw [if_neg (by first | omega | assumption), if_neg (by first | omega | assumption), if_neg (by first | omega | assumption), if_neg (by first | omega | assumption)]⟩
    · refine r_tabEq (tgt := 88) dX10_ofCrease_16 hsw (by decide) (by decide) rfl (by decide) ?_
      refine r_aload_n dX10_ofCrease_88 rfl (by decide) ?_
      refine r_getr (x := 49) dX10_ofCrease_89 flX10_52 sf0 (by decide) (by decide) rfl rfl ?_
      refine r_getr (x := 50) dX10_ofCrease_92 flX10_105 sf49 (by decide) (by decide) rfl rfl ?_
      refine r_getr (x := 53) dX10_ofCrease_95 flX10_109 sf50 (by decide) (by decide) rfl rfl ?_
      refine r_iload_n dX10_ofCrease_98 rfl ?_
      refine r_iald dX10_ofCrease_99 sf53 (by decide) (by omega) (by omega) (by decide) rfl ?_
      refine r_iret dX10_ofCrease_100 rfl ?_
      exact ⟨by unfold fcV; rw [if_neg (by first | omega | assumption), if_neg (by first | omega | assumption), if_neg (by first | omega | assumption), if_pos (by first | omega | assumption)], rfl, by unfold fcM; rw [if_neg (by first | omega | assumption), if_neg (by first | omega | assumption), if_neg (by first | omega | assumption), if_neg (by first | omega | assumption)]⟩
    · refine r_tabEq (tgt := 101) dX10_ofCrease_16 hsw (by decide) (by decide) rfl (by decide) ?_
      refine r_aload_n dX10_ofCrease_101 rfl (by decide) ?_
      refine r_getr (x := 49) dX10_ofCrease_102 flX10_52 sf0 (by decide) (by decide) rfl rfl ?_
      refine r_getr (x := 212) dX10_ofCrease_105 flX10_178 sf49 (by decide) (by decide) rfl rfl ?_
      refine r_iload_n dX10_ofCrease_108 rfl ?_
      refine r_iald dX10_ofCrease_109 sf212 (by decide) (by omega) (by omega) (by decide) rfl ?_
      refine r_iret dX10_ofCrease_110 rfl ?_
      exact ⟨by unfold fcV; rw [if_neg (by first | omega | assumption), if_neg (by first | omega | assumption), if_neg (by first | omega | assumption), if_neg (by first | omega | assumption), if_pos (by first | omega | assumption)], rfl, by unfold fcM; rw [if_neg (by first | omega | assumption), if_neg (by first | omega | assumption), if_neg (by first | omega | assumption), if_neg (by first | omega | assumption)]⟩
    · refine r_tabEq (tgt := 111) dX10_ofCrease_16 hsw (by decide) (by decide) rfl (by decide) ?_
      refine r_aload_n dX10_ofCrease_111 rfl (by decide) ?_
      refine r_getr (x := 49) dX10_ofCrease_112 flX10_52 sf0 (by decide) (by decide) rfl rfl ?_
      refine r_getr (x := 50) dX10_ofCrease_115 flX10_105 sf49 (by decide) (by decide) rfl rfl ?_
      refine r_getr (x := 52) dX10_ofCrease_118 flX10_181 sf50 (by decide) (by decide) rfl rfl ?_
      refine r_iload_n dX10_ofCrease_121 rfl ?_
      refine r_iald dX10_ofCrease_122 sf52 (by decide) (by omega) (by omega) (by decide) rfl ?_
      refine r_iret dX10_ofCrease_123 rfl ?_
      exact ⟨by unfold fcV; rw [if_neg (by first | omega | assumption), if_neg (by first | omega | assumption), if_neg (by first | omega | assumption), if_neg (by first | omega | assumption), if_neg (by first | omega | assumption), if_pos (by first | omega | assumption)], rfl, by unfold fcM; rw [if_neg (by first | omega | assumption), if_neg (by first | omega | assumption), if_neg (by first | omega | assumption), if_neg (by first | omega | assumption)]⟩
    · refine r_tabEq (tgt := 124) dX10_ofCrease_16 hsw (by decide) (by decide) rfl (by decide) ?_
      refine r_aload_n dX10_ofCrease_124 rfl (by decide) ?_
      refine r_getr (x := 49) dX10_ofCrease_125 flX10_52 sf0 (by decide) (by decide) rfl rfl ?_
      refine r_getr (x := 213) dX10_ofCrease_128 flX10_184 sf49 (by decide) (by decide) rfl rfl ?_
      refine r_iload_n dX10_ofCrease_131 rfl ?_
      refine r_iald dX10_ofCrease_132 sf213 (by decide) (by omega) (by omega) (by decide) rfl ?_
      refine r_iret dX10_ofCrease_133 rfl ?_
      exact ⟨by unfold fcV; rw [if_neg (by first | omega | assumption), if_neg (by first | omega | assumption), if_neg (by first | omega | assumption), if_neg (by first | omega | assumption), if_neg (by first | omega | assumption), if_neg (by first | omega | assumption), if_pos (by first | omega | assumption)], rfl, by unfold fcM; rw [if_neg (by first | omega | assumption), if_neg (by first | omega | assumption), if_neg (by first | omega | assumption), if_neg (by first | omega | assumption)]⟩
    · refine r_tabEq (tgt := 134) dX10_ofCrease_16 hsw (by decide) (by decide) rfl (by decide) ?_
      refine r_aload_n dX10_ofCrease_134 rfl (by decide) ?_
      refine r_getr (x := 49) dX10_ofCrease_135 flX10_52 sf0 (by decide) (by decide) rfl rfl ?_
      refine r_iconst dX10_ofCrease_138 (by decide) ?_
      refine r_iload_n dX10_ofCrease_139 rfl ?_
      refine r_aload_n dX10_ofCrease_140 rfl (by decide) ?_
      refine r_getr (x := 49) dX10_ofCrease_141 flX10_52 sf0 (by decide) (by decide) rfl rfl ?_
      refine r_gi 2 dX10_ofCrease_144 flX10_99 sf49 (by decide) (by decide) rfl rfl rfl ?_
      refine r_cv3 dX10_ofCrease_147 clX10_187 sf49 (by decide) (by decide) rfl (by first | decide | omega) (Nat.le_of_ble_eq_true rfl) ((c_byLaw h (by omega) (by decide))) ⟨Nat.zero_le _, Nat.zero_le _⟩ (fun _ => ?_)
      refine r_iret dX10_ofCrease_150 rfl ?_
      exact ⟨by unfold fcV; rw [if_neg (by first | omega | assumption), if_neg (by first | omega | assumption), if_neg (by first | omega | assumption), if_neg (by first | omega | assumption), if_neg (by first | omega | assumption), if_neg (by first | omega | assumption), if_neg (by first | omega | assumption), if_pos (by first | omega | assumption)], rfl, by unfold fcM; rw [if_neg (by first | omega | assumption), if_pos (by first | omega | assumption)]⟩
    · refine r_tabEq (tgt := 151) dX10_ofCrease_16 hsw (by decide) (by decide) rfl (by decide) ?_
      refine r_aload_n dX10_ofCrease_151 rfl (by decide) ?_
      refine r_getr (x := 49) dX10_ofCrease_152 flX10_52 sf0 (by decide) (by decide) rfl rfl ?_
      refine r_iconst dX10_ofCrease_155 (by decide) ?_
      refine r_iload_n dX10_ofCrease_156 rfl ?_
      refine r_aload_n dX10_ofCrease_157 rfl (by decide) ?_
      refine r_getr (x := 49) dX10_ofCrease_158 flX10_52 sf0 (by decide) (by decide) rfl rfl ?_
      refine r_gi 2 dX10_ofCrease_161 flX10_99 sf49 (by decide) (by decide) rfl rfl rfl ?_
      refine r_cv3 dX10_ofCrease_164 clX10_187 sf49 (by decide) (by decide) rfl (by first | decide | omega) (Nat.le_of_ble_eq_true rfl) ((c_byLaw h (by omega) (by decide))) ⟨Nat.zero_le _, Nat.zero_le _⟩ (fun _ => ?_)
      refine r_iret dX10_ofCrease_167 rfl ?_
      exact ⟨by unfold fcV; rw [if_neg (by first | omega | assumption), if_neg (by first | omega | assumption), if_neg (by first | omega | assumption), if_neg (by first | omega | assumption), if_neg (by first | omega | assumption), if_neg (by first | omega | assumption), if_neg (by first | omega | assumption), if_neg (by first | omega | assumption), if_pos (by first | omega | assumption)], rfl, by unfold fcM; rw [if_neg (by first | omega | assumption), if_neg (by first | omega | assumption), if_pos (by first | omega | assumption)]⟩
    · refine r_tabEq (tgt := 168) dX10_ofCrease_16 hsw (by decide) (by decide) rfl (by decide) ?_
      refine r_aload_n dX10_ofCrease_168 rfl (by decide) ?_
      refine r_getr (x := 49) dX10_ofCrease_169 flX10_52 sf0 (by decide) (by decide) rfl rfl ?_
      refine r_iconst dX10_ofCrease_172 (by decide) ?_
      refine r_iload_n dX10_ofCrease_173 rfl ?_
      refine r_aload_n dX10_ofCrease_174 rfl (by decide) ?_
      refine r_getr (x := 49) dX10_ofCrease_175 flX10_52 sf0 (by decide) (by decide) rfl rfl ?_
      refine r_gi 2 dX10_ofCrease_178 flX10_99 sf49 (by decide) (by decide) rfl rfl rfl ?_
      refine r_cv3 dX10_ofCrease_181 clX10_187 sf49 (by decide) (by decide) rfl (by first | decide | omega) (Nat.le_of_ble_eq_true rfl) ((c_byLaw h (by omega) (by decide))) ⟨Nat.zero_le _, Nat.zero_le _⟩ (fun _ => ?_)
      refine r_iret dX10_ofCrease_184 rfl ?_
      exact ⟨by unfold fcV; rw [if_neg (by first | omega | assumption), if_neg (by first | omega | assumption), if_neg (by first | omega | assumption), if_neg (by first | omega | assumption), if_neg (by first | omega | assumption), if_neg (by first | omega | assumption), if_neg (by first | omega | assumption), if_neg (by first | omega | assumption), if_neg (by first | omega | assumption), if_pos (by first | omega | assumption)], rfl, by unfold fcM; rw [if_neg (by first | omega | assumption), if_neg (by first | omega | assumption), if_neg (by first | omega | assumption), if_pos (by first | omega | assumption)]⟩
  · try have h8 := bi_0.mp h8
    refine r_sipush dX10_ofCrease_11 (by decide) (by decide) ?_
    refine r_iret dX10_ofCrease_14 rfl ?_
    exact ⟨by unfold fcV; rw [if_pos (by first | omega | assumption)], rfl, by unfold fcM; rw [if_pos (by first | omega | assumption)]⟩
def fiV (M : Me) (u : Int) : Int := if u = 0 then M 50 0 else if u = 1 then M 49 0 else if u = 2 then M 50 1 else if u = 3 then M 50 3 else -2
theorem f_is {x y z : Int} {M : Me} {u : Int} : Con kX10_is 0 0 0 [(1, 0), (0, u)] (Sf x y z) M (Ex (some (0, fiV M u)) (Sf x y z) M) := by
  refine Con.ofV (al := [(1, 0), (0, u)]) 0 (by decide) (Nat.le_of_ble_eq_true rfl) rfl ?_
  refine r_iload_n dX10_is_0 rfl ?_
  rcases (show (u < 0 ∨ 3 < u) ∨ u = 0 ∨ u = 1 ∨ u = 2 ∨ u = 3 by omega) with hsw | hsw | hsw | hsw | hsw
  · refine r_tabOut (tgt := 73) dX10_is_1 hsw (by decide) ?_
    refine r_bipush dX10_is_73 (by decide) (by decide) ?_
    refine r_iret dX10_is_75 rfl ?_
    first | (exfalso; omega) | exact ⟨by unfold fiV; rw [if_neg (by first | omega | assumption), if_neg (by first | omega | assumption), if_neg (by first | omega | assumption), if_neg (by first | omega | assumption)], rfl, rfl⟩
  · refine r_tabEq (tgt := 32) dX10_is_1 hsw (by decide) (by decide) rfl (by decide) ?_
    refine r_aload_n dX10_is_32 rfl (by decide) ?_
    refine r_getr (x := 49) dX10_is_33 flX10_52 sf0 (by decide) (by decide) rfl rfl ?_
    refine r_getr (x := 50) dX10_is_36 flX10_105 sf49 (by decide) (by decide) rfl rfl ?_
    refine r_gi 0 dX10_is_39 flX10_121 sf50 (by decide) (by decide) rfl rfl rfl ?_
    refine r_iret dX10_is_42 rfl ?_
    first | (exfalso; omega) | exact ⟨by unfold fiV; rw [if_pos (by first | omega | assumption)], rfl, rfl⟩
  · refine r_tabEq (tgt := 43) dX10_is_1 hsw (by decide) (by decide) rfl (by decide) ?_
    refine r_aload_n dX10_is_43 rfl (by decide) ?_
    refine r_getr (x := 49) dX10_is_44 flX10_52 sf0 (by decide) (by decide) rfl rfl ?_
    refine r_gi 0 dX10_is_47 flX10_191 sf49 (by decide) (by decide) rfl rfl rfl ?_
    refine r_iret dX10_is_50 rfl ?_
    first | (exfalso; omega) | exact ⟨by unfold fiV; rw [if_neg (by first | omega | assumption), if_pos (by first | omega | assumption)], rfl, rfl⟩
  · refine r_tabEq (tgt := 51) dX10_is_1 hsw (by decide) (by decide) rfl (by decide) ?_
    refine r_aload_n dX10_is_51 rfl (by decide) ?_
    refine r_getr (x := 49) dX10_is_52 flX10_52 sf0 (by decide) (by decide) rfl rfl ?_
    refine r_getr (x := 50) dX10_is_55 flX10_105 sf49 (by decide) (by decide) rfl rfl ?_
    refine r_gi 1 dX10_is_58 flX10_194 sf50 (by decide) (by decide) rfl rfl rfl ?_
    refine r_iret dX10_is_61 rfl ?_
    first | (exfalso; omega) | exact ⟨by unfold fiV; rw [if_neg (by first | omega | assumption), if_neg (by first | omega | assumption), if_pos (by first | omega | assumption)], rfl, rfl⟩
  · refine r_tabEq (tgt := 62) dX10_is_1 hsw (by decide) (by decide) rfl (by decide) ?_
    refine r_aload_n dX10_is_62 rfl (by decide) ?_
    refine r_getr (x := 49) dX10_is_63 flX10_52 sf0 (by decide) (by decide) rfl rfl ?_
    refine r_getr (x := 50) dX10_is_66 flX10_105 sf49 (by decide) (by decide) rfl rfl ?_
    refine r_gi 3 dX10_is_69 flX10_197 sf50 (by decide) (by decide) rfl rfl rfl ?_
    refine r_iret dX10_is_72 rfl ?_
    first | (exfalso; omega) | exact ⟨by unfold fiV; rw [if_neg (by first | omega | assumption), if_neg (by first | omega | assumption), if_neg (by first | omega | assumption), if_pos (by first | omega | assumption)], rfl, rfl⟩
def fbV (M : Me) (i u : Int) : Int := if i = -1 then M 50 4 else enC M i u
theorem f_book {x y z : Int} {M : Me} (h : CI M) {i u : Int} : Con kX10_book 1 0 0 [(1, 0), (0, i), (0, u)] (Sf x y z) M (Ex (some (0, fbV M i u)) (Sf x y z) M) := by
  refine Con.ofV (al := [(1, 0), (0, i), (0, u)]) 0 (by decide) (Nat.le_of_ble_eq_true rfl) rfl ?_
  refine r_iload_n dX10_book_0 rfl ?_
  refine r_iconst dX10_book_1 (by decide) ?_
  refine r_icmp_ne (tgt := 16) dX10_book_2 (by decide) (fun h2 => ?_) (fun h2 => ?_)
  · refine r_aload_n dX10_book_16 rfl (by decide) ?_
    refine r_getr (x := 49) dX10_book_17 flX10_52 sf0 (by decide) (by decide) rfl rfl ?_
    refine r_getr (x := 50) dX10_book_20 flX10_105 sf49 (by decide) (by decide) rfl rfl ?_
    refine r_iload_n dX10_book_23 rfl ?_
    refine r_iload_n dX10_book_24 rfl ?_
    refine r_cv2 dX10_book_25 clX10_203 sf50 (by decide) (by decide) rfl (by first | decide | omega) (Nat.le_of_ble_eq_true rfl) ((c_entry h.b)) ⟨Nat.zero_le _, Nat.zero_le _⟩ (fun _ => ?_)
    refine r_iret dX10_book_28 rfl ?_
    first | (exfalso; omega) | exact ⟨by unfold fbV; rw [if_pos (by first | omega | assumption)], rfl, rfl⟩ | exact ⟨by unfold fbV; rw [if_neg (by first | omega | assumption)], rfl, rfl⟩
  · refine r_aload_n dX10_book_5 rfl (by decide) ?_
    refine r_getr (x := 49) dX10_book_6 flX10_52 sf0 (by decide) (by decide) rfl rfl ?_
    refine r_getr (x := 50) dX10_book_9 flX10_105 sf49 (by decide) (by decide) rfl rfl ?_
    refine r_gi 4 dX10_book_12 flX10_200 sf50 (by decide) (by decide) rfl rfl rfl ?_
    refine r_iret dX10_book_15 rfl ?_
    first | (exfalso; omega) | exact ⟨by unfold fbV; rw [if_pos (by first | omega | assumption)], rfl, rfl⟩ | exact ⟨by unfold fbV; rw [if_neg (by first | omega | assumption)], rfl, rfl⟩
def fhgV (M : Me) (c : Int) : Int := if 0 ≤ c ∧ c < M 50 3 then M 214 c else -1
theorem f_hanging {x y z : Int} {M : Me} (h : CI M) {c : Int} : Con kX10_hanging 1 0 0 [(1, 0), (0, c)] (Sf x y z) M (Ex (some (0, fhgV M c)) (Sf x y z) M) := by
  refine Con.ofV (al := [(1, 0), (0, c)]) 0 (by decide) (Nat.le_of_ble_eq_true rfl) rfl ?_
  have h3 := h.c
  refine r_aload_n dX10_hanging_0 rfl (by decide) ?_
  refine r_getr (x := 49) dX10_hanging_1 flX10_52 sf0 (by decide) (by decide) rfl rfl ?_
  refine r_iload_n dX10_hanging_4 rfl ?_
  refine r_cv1 dX10_hanging_5 clX10_169 sf49 (by decide) (by decide) rfl (by first | decide | omega) (Nat.le_of_ble_eq_true rfl) (s_isCrease) ⟨Nat.zero_le _, Nat.zero_le _⟩ (fun _ => ?_)
  refine r_if_eq (tgt := 23) dX10_hanging_8 (by decide) (fun h8 => ?_) (fun h8 => ?_)
  · try have h8 := bi_0.mp h8
    refine r_iconst dX10_hanging_23 (by decide) ?_
    refine r_iret dX10_hanging_24 rfl ?_
    first | (exfalso; omega) | exact ⟨by unfold fhgV; rw [if_pos (by first | omega | assumption)], rfl, rfl⟩ | exact ⟨by unfold fhgV; rw [if_neg (by first | omega | assumption)], rfl, rfl⟩
  · try have h8 := bi_1.mp h8
    refine r_aload_n dX10_hanging_11 rfl (by decide) ?_
    refine r_getr (x := 49) dX10_hanging_12 flX10_52 sf0 (by decide) (by decide) rfl rfl ?_
    refine r_getr (x := 214) dX10_hanging_15 flX10_206 sf49 (by decide) (by decide) rfl rfl ?_
    refine r_iload_n dX10_hanging_18 rfl ?_
    refine r_iald dX10_hanging_19 sf214 (by decide) (by omega) (by omega) (by decide) rfl ?_
    refine r_goto (tgt := 24) dX10_hanging_20 (by decide) ?_
    refine r_iret dX10_hanging_24 rfl ?_
    first | (exfalso; omega) | exact ⟨by unfold fhgV; rw [if_pos (by first | omega | assumption)], rfl, rfl⟩ | exact ⟨by unfold fhgV; rw [if_neg (by first | omega | assumption)], rfl, rfl⟩
def fftV (M : Me) (k c : Int) : Int := if k < 1 ∨ 60 < k ∨ ¬ (0 ≤ c ∧ c < M 50 3) then -1 else dbC M k c
theorem f_foretold {x y z : Int} {M : Me} (h : CI M) {k c : Int} : Con kX10_foretold 3 0 0 [(1, 0), (0, k), (0, c)] (Sf x y z) M (Ex (some (0, fftV M k c)) (Sf x y z) M) := by
  refine Con.ofV (al := [(1, 0), (0, k), (0, c)]) 0 (by decide) (Nat.le_of_ble_eq_true rfl) rfl ?_
  refine r_iload_n dX10_foretold_0 rfl ?_
  refine r_iconst dX10_foretold_1 (by decide) ?_
  refine r_icmp_lt (tgt := 22) dX10_foretold_2 (by decide) (fun h2 => ?_) (fun h2 => ?_)
  · refine r_iconst dX10_foretold_22 (by decide) ?_
    refine r_iret dX10_foretold_23 rfl ?_
    first | (exfalso; omega) | exact ⟨by unfold fftV; rw [if_pos (by first | omega | assumption)], rfl, rfl⟩ | exact ⟨by unfold fftV; rw [if_neg (by first | omega | assumption)], rfl, rfl⟩
  · refine r_iload_n dX10_foretold_5 rfl ?_
    refine r_bipush dX10_foretold_6 (by decide) (by decide) ?_
    refine r_icmp_gt (tgt := 22) dX10_foretold_8 (by decide) (fun h8 => ?_) (fun h8 => ?_)
    · refine r_iconst dX10_foretold_22 (by decide) ?_
      refine r_iret dX10_foretold_23 rfl ?_
      first | (exfalso; omega) | exact ⟨by unfold fftV; rw [if_pos (by first | omega | assumption)], rfl, rfl⟩ | exact ⟨by unfold fftV; rw [if_neg (by first | omega | assumption)], rfl, rfl⟩
    · refine r_aload_n dX10_foretold_11 rfl (by decide) ?_
      refine r_getr (x := 49) dX10_foretold_12 flX10_52 sf0 (by decide) (by decide) rfl rfl ?_
      refine r_iload_n dX10_foretold_15 rfl ?_
      refine r_cv1 dX10_foretold_16 clX10_169 sf49 (by decide) (by decide) rfl (by first | decide | omega) (Nat.le_of_ble_eq_true rfl) (s_isCrease) ⟨Nat.zero_le _, Nat.zero_le _⟩ (fun _ => ?_)
      refine r_if_ne (tgt := 24) dX10_foretold_19 (by decide) (fun h19 => ?_) (fun h19 => ?_)
      · try have h19 := bi_1.mp h19
        refine r_aload_n dX10_foretold_24 rfl (by decide) ?_
        refine r_getr (x := 12) dX10_foretold_25 flX10_39 sf0 (by decide) (by decide) rfl rfl ?_
        refine r_aload_n dX10_foretold_28 rfl (by decide) ?_
        refine r_getr (x := 49) dX10_foretold_29 flX10_52 sf0 (by decide) (by decide) rfl rfl ?_
        refine r_iload_n dX10_foretold_32 rfl ?_
        refine r_iload_n dX10_foretold_33 rfl ?_
        refine r_cv3 dX10_foretold_34 clX10_209 sf12 (by decide) (by decide) rfl (by first | decide | omega) (Nat.le_of_ble_eq_true rfl) ((c_depthBehind h (by omega) (by omega))) ⟨Nat.zero_le _, Nat.zero_le _⟩ (fun _ => ?_)
        refine r_iret dX10_foretold_37 rfl ?_
        first | (exfalso; omega) | exact ⟨by unfold fftV; rw [if_pos (by first | omega | assumption)], rfl, rfl⟩ | exact ⟨by unfold fftV; rw [if_neg (by first | omega | assumption)], rfl, rfl⟩
      · try have h19 := bi_0.mp h19
        refine r_iconst dX10_foretold_22 (by decide) ?_
        refine r_iret dX10_foretold_23 rfl ?_
        first | (exfalso; omega) | exact ⟨by unfold fftV; rw [if_pos (by first | omega | assumption)], rfl, rfl⟩ | exact ⟨by unfold fftV; rw [if_neg (by first | omega | assumption)], rfl, rfl⟩
def fabV (M : Me) (u : Int) : Int := if u = 0 then M 50 2 else if u = 1 then M 49 1 else if u = 2 then M 49 2 else if u = 3 then M 55 0 else if u = 4 then M 215 0 else if u = 5 then M 219 0 else if u = 6 then M 223 0 else if u = 7 then M 227 0 else if u = 8 then M 231 0 else if u = 9 then M 2 0 else -2
theorem f_about {x y z : Int} {M : Me} {u : Int} : Con kX10_about 0 0 0 [(1, 0), (0, u)] (Sf x y z) M (Ex (some (0, fabV M u)) (Sf x y z) M) := by
  refine Con.ofV (al := [(1, 0), (0, u)]) 0 (by decide) (Nat.le_of_ble_eq_true rfl) rfl ?_
  refine r_iload_n dX10_about_0 rfl ?_
  rcases (show (u < 0 ∨ 9 < u) ∨ u = 0 ∨ u = 1 ∨ u = 2 ∨ u = 3 ∨ u = 4 ∨ u = 5 ∨ u = 6 ∨ u = 7 ∨ u = 8 ∨ u = 9 by omega) with hsw | hsw | hsw | hsw | hsw | hsw | hsw | hsw | hsw | hsw | hsw
  · refine r_tabOut (tgt := 157) dX10_about_1 hsw (by decide) ?_
    refine r_bipush dX10_about_157 (by decide) (by decide) ?_
    refine r_iret dX10_about_159 rfl ?_
    first | (exfalso; omega) | exact ⟨by unfold fabV; rw [if_neg (by first | omega | assumption), if_neg (by first | omega | assumption), if_neg (by first | omega | assumption), if_neg (by first | omega | assumption), if_neg (by first | omega | assumption), if_neg (by first | omega | assumption), if_neg (by first | omega | assumption), if_neg (by first | omega | assumption), if_neg (by first | omega | assumption), if_neg (by first | omega | assumption)], rfl, rfl⟩
  · refine r_tabEq (tgt := 56) dX10_about_1 hsw (by decide) (by decide) rfl (by decide) ?_
    refine r_aload_n dX10_about_56 rfl (by decide) ?_
    refine r_getr (x := 49) dX10_about_57 flX10_52 sf0 (by decide) (by decide) rfl rfl ?_
    refine r_getr (x := 50) dX10_about_60 flX10_105 sf49 (by decide) (by decide) rfl rfl ?_
    refine r_gi 2 dX10_about_63 flX10_314 sf50 (by decide) (by decide) rfl rfl rfl ?_
    refine r_iret dX10_about_66 rfl ?_
    first | (exfalso; omega) | exact ⟨by unfold fabV; rw [if_pos (by first | omega | assumption)], rfl, rfl⟩
  · refine r_tabEq (tgt := 67) dX10_about_1 hsw (by decide) (by decide) rfl (by decide) ?_
    refine r_aload_n dX10_about_67 rfl (by decide) ?_
    refine r_getr (x := 49) dX10_about_68 flX10_52 sf0 (by decide) (by decide) rfl rfl ?_
    refine r_gi 1 dX10_about_71 flX10_86 sf49 (by decide) (by decide) rfl rfl rfl ?_
    refine r_iret dX10_about_74 rfl ?_
    first | (exfalso; omega) | exact ⟨by unfold fabV; rw [if_neg (by first | omega | assumption), if_pos (by first | omega | assumption)], rfl, rfl⟩
  · refine r_tabEq (tgt := 75) dX10_about_1 hsw (by decide) (by decide) rfl (by decide) ?_
    refine r_aload_n dX10_about_75 rfl (by decide) ?_
    refine r_getr (x := 49) dX10_about_76 flX10_52 sf0 (by decide) (by decide) rfl rfl ?_
    refine r_gi 2 dX10_about_79 flX10_99 sf49 (by decide) (by decide) rfl rfl rfl ?_
    refine r_iret dX10_about_82 rfl ?_
    first | (exfalso; omega) | exact ⟨by unfold fabV; rw [if_neg (by first | omega | assumption), if_neg (by first | omega | assumption), if_pos (by first | omega | assumption)], rfl, rfl⟩
  · refine r_tabEq (tgt := 83) dX10_about_1 hsw (by decide) (by decide) rfl (by decide) ?_
    refine r_aload_n dX10_about_83 rfl (by decide) ?_
    refine r_getr (x := 49) dX10_about_84 flX10_52 sf0 (by decide) (by decide) rfl rfl ?_
    refine r_getr (x := 55) dX10_about_87 flX10_324 sf49 (by decide) (by decide) rfl rfl ?_
    refine r_gi 0 dX10_about_90 flX10_328 sf55 (by decide) (by decide) rfl rfl rfl ?_
    refine r_iret dX10_about_93 rfl ?_
    first | (exfalso; omega) | exact ⟨by unfold fabV; rw [if_neg (by first | omega | assumption), if_neg (by first | omega | assumption), if_neg (by first | omega | assumption), if_pos (by first | omega | assumption)], rfl, rfl⟩
  · refine r_tabEq (tgt := 94) dX10_about_1 hsw (by decide) (by decide) rfl (by decide) ?_
    refine r_aload_n dX10_about_94 rfl (by decide) ?_
    refine r_getr (x := 49) dX10_about_95 flX10_52 sf0 (by decide) (by decide) rfl rfl ?_
    refine r_getr (x := 215) dX10_about_98 flX10_213 sf49 (by decide) (by decide) rfl rfl ?_
    refine r_gi 0 dX10_about_101 flX10_232 sf215 (by decide) (by decide) rfl rfl rfl ?_
    refine r_iret dX10_about_104 rfl ?_
    first | (exfalso; omega) | exact ⟨by unfold fabV; rw [if_neg (by first | omega | assumption), if_neg (by first | omega | assumption), if_neg (by first | omega | assumption), if_neg (by first | omega | assumption), if_pos (by first | omega | assumption)], rfl, rfl⟩
  · refine r_tabEq (tgt := 105) dX10_about_1 hsw (by decide) (by decide) rfl (by decide) ?_
    refine r_aload_n dX10_about_105 rfl (by decide) ?_
    refine r_getr (x := 49) dX10_about_106 flX10_52 sf0 (by decide) (by decide) rfl rfl ?_
    refine r_getr (x := 219) dX10_about_109 flX10_229 sf49 (by decide) (by decide) rfl rfl ?_
    refine r_gi 0 dX10_about_112 flX10_232 sf219 (by decide) (by decide) rfl rfl rfl ?_
    refine r_iret dX10_about_115 rfl ?_
    first | (exfalso; omega) | exact ⟨by unfold fabV; rw [if_neg (by first | omega | assumption), if_neg (by first | omega | assumption), if_neg (by first | omega | assumption), if_neg (by first | omega | assumption), if_neg (by first | omega | assumption), if_pos (by first | omega | assumption)], rfl, rfl⟩
  · refine r_tabEq (tgt := 116) dX10_about_1 hsw (by decide) (by decide) rfl (by decide) ?_
    refine r_aload_n dX10_about_116 rfl (by decide) ?_
    refine r_getr (x := 49) dX10_about_117 flX10_52 sf0 (by decide) (by decide) rfl rfl ?_
    refine r_getr (x := 223) dX10_about_120 flX10_249 sf49 (by decide) (by decide) rfl rfl ?_
    refine r_gi 0 dX10_about_123 flX10_232 sf223 (by decide) (by decide) rfl rfl rfl ?_
    refine r_iret dX10_about_126 rfl ?_
    first | (exfalso; omega) | exact ⟨by unfold fabV; rw [if_neg (by first | omega | assumption), if_neg (by first | omega | assumption), if_neg (by first | omega | assumption), if_neg (by first | omega | assumption), if_neg (by first | omega | assumption), if_neg (by first | omega | assumption), if_pos (by first | omega | assumption)], rfl, rfl⟩
  · refine r_tabEq (tgt := 127) dX10_about_1 hsw (by decide) (by decide) rfl (by decide) ?_
    refine r_aload_n dX10_about_127 rfl (by decide) ?_
    refine r_getr (x := 49) dX10_about_128 flX10_52 sf0 (by decide) (by decide) rfl rfl ?_
    refine r_getr (x := 227) dX10_about_131 flX10_268 sf49 (by decide) (by decide) rfl rfl ?_
    refine r_gi 0 dX10_about_134 flX10_232 sf227 (by decide) (by decide) rfl rfl rfl ?_
    refine r_iret dX10_about_137 rfl ?_
    first | (exfalso; omega) | exact ⟨by unfold fabV; rw [if_neg (by first | omega | assumption), if_neg (by first | omega | assumption), if_neg (by first | omega | assumption), if_neg (by first | omega | assumption), if_neg (by first | omega | assumption), if_neg (by first | omega | assumption), if_neg (by first | omega | assumption), if_pos (by first | omega | assumption)], rfl, rfl⟩
  · refine r_tabEq (tgt := 138) dX10_about_1 hsw (by decide) (by decide) rfl (by decide) ?_
    refine r_aload_n dX10_about_138 rfl (by decide) ?_
    refine r_getr (x := 49) dX10_about_139 flX10_52 sf0 (by decide) (by decide) rfl rfl ?_
    refine r_getr (x := 231) dX10_about_142 flX10_278 sf49 (by decide) (by decide) rfl rfl ?_
    refine r_gi 0 dX10_about_145 flX10_232 sf231 (by decide) (by decide) rfl rfl rfl ?_
    refine r_iret dX10_about_148 rfl ?_
    first | (exfalso; omega) | exact ⟨by unfold fabV; rw [if_neg (by first | omega | assumption), if_neg (by first | omega | assumption), if_neg (by first | omega | assumption), if_neg (by first | omega | assumption), if_neg (by first | omega | assumption), if_neg (by first | omega | assumption), if_neg (by first | omega | assumption), if_neg (by first | omega | assumption), if_pos (by first | omega | assumption)], rfl, rfl⟩
  · refine r_tabEq (tgt := 149) dX10_about_1 hsw (by decide) (by decide) rfl (by decide) ?_
    refine r_aload_n dX10_about_149 rfl (by decide) ?_
    refine r_getr (x := 2) dX10_about_150 flX10_18 sf0 (by decide) (by decide) rfl rfl ?_
    refine r_gi 0 dX10_about_153 flX10_331 sf2 (by decide) (by decide) rfl rfl rfl ?_
    refine r_iret dX10_about_156 rfl ?_
    first | (exfalso; omega) | exact ⟨by unfold fabV; rw [if_neg (by first | omega | assumption), if_neg (by first | omega | assumption), if_neg (by first | omega | assumption), if_neg (by first | omega | assumption), if_neg (by first | omega | assumption), if_neg (by first | omega | assumption), if_neg (by first | omega | assumption), if_neg (by first | omega | assumption), if_neg (by first | omega | assumption), if_pos (by first | omega | assumption)], rfl, rfl⟩
def felV (M : Me) (n : Nat) (p : Int) : Int := if 0 ≤ p ∧ p < M 50 2 then fl1 (fun c f : Int => (M 209 c = p ∧ M 52 c = 0) ∧ (f = -1 ∨ M 210 c < M 210 f)) (fun c _ => c) (-1) n else -1
theorem f_eldest {x y z : Int} {M : Me} (h : CI M) {p : Int} {n : Nat} (hn : M 50 3 = (n : Int)) (hn12 : n ≤ 12) : Con kX10_eldest 3 0 0 [(1, 0), (0, p)] (Sf x y z) M (Ex (some (0, felV M n p)) (Sf x y z) M) := by
  refine Con.ofV (al := [(1, 0), (0, p)]) 0 (by decide) (Nat.le_of_ble_eq_true rfl) rfl ?_
  refine r_aload_n dX10_eldest_0 rfl (by decide) ?_
  refine r_getr (x := 49) dX10_eldest_1 flX10_52 sf0 (by decide) (by decide) rfl rfl ?_
  refine r_iload_n dX10_eldest_4 rfl ?_
  refine r_cv1 dX10_eldest_5 clX10_147 sf49 (by decide) (by decide) rfl (by first | decide | omega) (Nat.le_of_ble_eq_true rfl) (s_isPerson) ⟨Nat.zero_le _, Nat.zero_le _⟩ (fun _ => ?_)
  refine r_if_eq (tgt := 26) dX10_eldest_8 (by decide) (fun h8 => ?_) (fun h8 => ?_)
  · try have h8 := bi_0.mp h8
    refine r_iconst dX10_eldest_26 (by decide) ?_
    refine r_iret dX10_eldest_27 rfl ?_
    first | (exfalso; omega) | exact ⟨by unfold felV; rw [if_pos (by first | omega | assumption)], rfl, rfl⟩ | exact ⟨by unfold felV; rw [if_neg (by first | omega | assumption)], rfl, rfl⟩
  · try have h8 := bi_1.mp h8
    refine r_aload_n dX10_eldest_11 rfl (by decide) ?_
    refine r_getr (x := 12) dX10_eldest_12 flX10_39 sf0 (by decide) (by decide) rfl rfl ?_
    refine r_aload_n dX10_eldest_15 rfl (by decide) ?_
    refine r_getr (x := 49) dX10_eldest_16 flX10_52 sf0 (by decide) (by decide) rfl rfl ?_
    refine r_iload_n dX10_eldest_19 rfl ?_
    refine r_cv2 dX10_eldest_20 clX10_311 sf12 (by decide) (by decide) rfl (by first | decide | omega) (Nat.le_of_ble_eq_true rfl) ((c_eldestC h hn hn12)) ⟨Nat.zero_le _, Nat.zero_le _⟩ (fun _ => ?_)
    refine r_goto (tgt := 27) dX10_eldest_23 (by decide) ?_
    refine r_iret dX10_eldest_27 rfl ?_
    first | (exfalso; omega) | exact ⟨by unfold felV; rw [if_pos (by first | omega | assumption)], rfl, rfl⟩ | exact ⟨by unfold felV; rw [if_neg (by first | omega | assumption)], rfl, rfl⟩
def fshV (M : Me) (n : Nat) (p q : Int) : Int := if ¬ (0 ≤ p ∧ p < M 50 2) ∨ ¬ (0 ≤ q ∧ q < M 50 2) ∨ p = q then -1 else and32 (bset (fun c : Int => M 209 c = p ∧ M 52 c = 0) (fun c : Int => M 210 c / 10) n) (bset (fun c : Int => M 209 c = q ∧ M 52 c = 0) (fun c : Int => M 210 c / 10) n)
theorem f_shared {x y z : Int} {M : Me} (h : CI M) {p q : Int} {n : Nat} (hn : M 50 3 = (n : Int)) (hn12 : n ≤ 12) : Con kX10_shared 3 0 0 [(1, 0), (0, p), (0, q)] (Sf x y z) M (Ex (some (0, fshV M n p q)) (Sf x y z) M) := by
  refine Con.ofV (al := [(1, 0), (0, p), (0, q)]) 0 (by decide) (Nat.le_of_ble_eq_true rfl) rfl ?_
  refine r_aload_n dX10_shared_0 rfl (by decide) ?_
  refine r_getr (x := 49) dX10_shared_1 flX10_52 sf0 (by decide) (by decide) rfl rfl ?_
  refine r_iload_n dX10_shared_4 rfl ?_
  refine r_cv1 dX10_shared_5 clX10_147 sf49 (by decide) (by decide) rfl (by first | decide | omega) (Nat.le_of_ble_eq_true rfl) (s_isPerson) ⟨Nat.zero_le _, Nat.zero_le _⟩ (fun _ => ?_)
  refine r_if_eq (tgt := 27) dX10_shared_8 (by decide) (fun h8 => ?_) (fun h8 => ?_)
  · try have h8 := bi_0.mp h8
    refine r_iconst dX10_shared_27 (by decide) ?_
    refine r_iret dX10_shared_28 rfl ?_
    first | (exfalso; omega) | exact ⟨by unfold fshV; rw [if_pos (by first | omega | assumption)], rfl, rfl⟩ | exact ⟨by unfold fshV; rw [if_neg (by first | omega | assumption)], rfl, rfl⟩
  · try have h8 := bi_1.mp h8
    refine r_aload_n dX10_shared_11 rfl (by decide) ?_
    refine r_getr (x := 49) dX10_shared_12 flX10_52 sf0 (by decide) (by decide) rfl rfl ?_
    refine r_iload_n dX10_shared_15 rfl ?_
    refine r_cv1 dX10_shared_16 clX10_147 sf49 (by decide) (by decide) rfl (by first | decide | omega) (Nat.le_of_ble_eq_true rfl) (s_isPerson) ⟨Nat.zero_le _, Nat.zero_le _⟩ (fun _ => ?_)
    refine r_if_eq (tgt := 27) dX10_shared_19 (by decide) (fun h19 => ?_) (fun h19 => ?_)
    · try have h19 := bi_0.mp h19
      refine r_iconst dX10_shared_27 (by decide) ?_
      refine r_iret dX10_shared_28 rfl ?_
      first | (exfalso; omega) | exact ⟨by unfold fshV; rw [if_pos (by first | omega | assumption)], rfl, rfl⟩ | exact ⟨by unfold fshV; rw [if_neg (by first | omega | assumption)], rfl, rfl⟩
    · try have h19 := bi_1.mp h19
      refine r_iload_n dX10_shared_22 rfl ?_
      refine r_iload_n dX10_shared_23 rfl ?_
      refine r_icmp_ne (tgt := 29) dX10_shared_24 (by decide) (fun h24 => ?_) (fun h24 => ?_)
      · refine r_aload_n dX10_shared_29 rfl (by decide) ?_
        refine r_getr (x := 12) dX10_shared_30 flX10_39 sf0 (by decide) (by decide) rfl rfl ?_
        refine r_aload_n dX10_shared_33 rfl (by decide) ?_
        refine r_getr (x := 49) dX10_shared_34 flX10_52 sf0 (by decide) (by decide) rfl rfl ?_
        refine r_iload_n dX10_shared_37 rfl ?_
        refine r_cv2 dX10_shared_38 clX10_317 sf12 (by decide) (by decide) rfl (by first | decide | omega) (Nat.le_of_ble_eq_true rfl) ((c_tensOf h hn hn12)) ⟨Nat.zero_le _, Nat.zero_le _⟩ (fun _ => ?_)
        refine r_aload_n dX10_shared_41 rfl (by decide) ?_
        refine r_getr (x := 12) dX10_shared_42 flX10_39 sf0 (by decide) (by decide) rfl rfl ?_
        refine r_aload_n dX10_shared_45 rfl (by decide) ?_
        refine r_getr (x := 49) dX10_shared_46 flX10_52 sf0 (by decide) (by decide) rfl rfl ?_
        refine r_iload_n dX10_shared_49 rfl ?_
        refine r_cv2 dX10_shared_50 clX10_317 sf12 (by decide) (by decide) rfl (by first | decide | omega) (Nat.le_of_ble_eq_true rfl) ((c_tensOf h hn hn12)) ⟨Nat.zero_le _, Nat.zero_le _⟩ (fun _ => ?_)
        refine r_iand dX10_shared_53 rfl ?_
        refine r_iret dX10_shared_54 rfl ?_
        first | (exfalso; omega) | exact ⟨by unfold fshV; rw [if_pos (by first | omega | assumption)], rfl, rfl⟩ | exact ⟨by unfold fshV; rw [if_neg (by first | omega | assumption)], rfl, rfl⟩
      · refine r_iconst dX10_shared_27 (by decide) ?_
        refine r_iret dX10_shared_28 rfl ?_
        first | (exfalso; omega) | exact ⟨by unfold fshV; rw [if_pos (by first | omega | assumption)], rfl, rfl⟩ | exact ⟨by unfold fshV; rw [if_neg (by first | omega | assumption)], rfl, rfl⟩
theorem l_blankC {x y z : Int} {M : Me} {n : Nat} (hn : M 50 3 = (n : Int)) (hn12 : n ≤ 12) {np : Nat} (h5 : M 50 2 = (np : Int)) (h55 : np ≤ 5) : ∀ (m i : Nat), m + i = np → V kX10_blank 0 0 2 none (Ex (some (0, bset (fun p : Int => and32 (bset (fun c : Int => M 209 c = p) (fun c => c) n) (bset (fun c : Int => M 52 c = 0) (fun c => c) n) = 0) (fun p => p) np)) (Sf x y z) M) 4 [(1, 0), (0, bset (fun p : Int => and32 (bset (fun c : Int => M 209 c = p) (fun c => c) n) (bset (fun c : Int => M 52 c = 0) (fun c => c) n) = 0) (fun p => p) i), (0, (i : Int))] [] (Sf x y z) M 0 0 := by
  intro m
  induction m with
  | zero =>
    intro i hi
    obtain rfl : i = np := by omega
    refine r_iload_n dX10_blank_4 rfl ?_
    refine r_aload_n dX10_blank_5 rfl (by decide) ?_
    refine r_getr (x := 49) dX10_blank_6 flX10_52 sf0 (by decide) (by decide) rfl rfl ?_
    refine r_getr (x := 50) dX10_blank_9 flX10_105 sf49 (by decide) (by decide) rfl rfl ?_
    refine r_gi 2 dX10_blank_12 flX10_314 sf50 (by decide) (by decide) rfl rfl h5 ?_
    refine r_icmp_ge (tgt := 49) dX10_blank_15 (by decide) (fun h15 => ?_) (fun h15 => by exfalso; omega)
    refine r_iload_n dX10_blank_49 rfl ?_
    refine r_iret dX10_blank_50 rfl ?_
    exact ⟨rfl, rfl, rfl⟩
  | succ m ih =>
    intro i hi
    refine r_iload_n dX10_blank_4 rfl ?_
    refine r_aload_n dX10_blank_5 rfl (by decide) ?_
    refine r_getr (x := 49) dX10_blank_6 flX10_52 sf0 (by decide) (by decide) rfl rfl ?_
    refine r_getr (x := 50) dX10_blank_9 flX10_105 sf49 (by decide) (by decide) rfl rfl ?_
    refine r_gi 2 dX10_blank_12 flX10_314 sf50 (by decide) (by decide) rfl rfl h5 ?_
    refine r_icmp_ge (tgt := 49) dX10_blank_15 (by decide) (fun h15 => by exfalso; omega) (fun h15 => ?_)
    refine r_aload_n dX10_blank_18 rfl (by decide) ?_
    refine r_getr (x := 49) dX10_blank_19 flX10_52 sf0 (by decide) (by decide) rfl rfl ?_
    refine r_iload_n dX10_blank_22 rfl ?_
    refine r_cv1 dX10_blank_23 clX10_156 sf49 (by decide) (by decide) rfl (by first | decide | omega) (Nat.le_of_ble_eq_true rfl) ((s_creasesOf hn hn12)) ⟨Nat.zero_le _, Nat.zero_le _⟩ (fun _ => ?_)
    refine r_aload_n dX10_blank_26 rfl (by decide) ?_
    refine r_getr (x := 49) dX10_blank_27 flX10_52 sf0 (by decide) (by decide) rfl rfl ?_
    refine r_cv0 dX10_blank_30 clX10_159 sf49 (by decide) (by decide) rfl (by first | decide | omega) (Nat.le_of_ble_eq_true rfl) ((s_allThere hn hn12)) ⟨Nat.zero_le _, Nat.zero_le _⟩ (fun _ => ?_)
    refine r_iand dX10_blank_33 rfl ?_
    refine r_if_ne (tgt := 43) dX10_blank_34 (by decide) (fun h34 => ?_) (fun h34 => ?_)
    · refine r_iinc dX10_blank_43 rfl rfl (by decide) (w32_id (by omega)) st2 ?_
      refine r_goto (tgt := 4) dX10_blank_46 (by decide) ?_
      first | exact V.al (by rw [bset_t (p := (fun p : Int => and32 (bset (fun c : Int => M 209 c = p) (fun c => c) n) (bset (fun c : Int => M 52 c = 0) (fun c => c) n) = 0)) (f := fun p => p) (by assumption)]; rfl) (ih (i + 1) (by omega)) | exact V.al (by rw [bset_n (p := (fun p : Int => and32 (bset (fun c : Int => M 209 c = p) (fun c => c) n) (bset (fun c : Int => M 52 c = 0) (fun c => c) n) = 0)) (f := fun p => p) (by assumption)]; rfl) (ih (i + 1) (by omega))
    · refine r_iload_n dX10_blank_37 rfl ?_
      refine r_iconst dX10_blank_38 (by decide) ?_
      refine r_iload_n dX10_blank_39 rfl ?_
      refine r_ishl dX10_blank_40 rfl ?_
      refine r_ior dX10_blank_41 rfl ?_
      refine r_istore_n dX10_blank_42 rfl (by decide) st1 ?_
      refine r_iinc dX10_blank_43 rfl rfl (by decide) (w32_id (by omega)) st2 ?_
      refine r_goto (tgt := 4) dX10_blank_46 (by decide) ?_
      first | exact V.al (by rw [bset_t (p := (fun p : Int => and32 (bset (fun c : Int => M 209 c = p) (fun c => c) n) (bset (fun c : Int => M 52 c = 0) (fun c => c) n) = 0)) (f := fun p => p) (by assumption)]; rfl) (ih (i + 1) (by omega)) | exact V.al (by rw [bset_n (p := (fun p : Int => and32 (bset (fun c : Int => M 209 c = p) (fun c => c) n) (bset (fun c : Int => M 52 c = 0) (fun c => c) n) = 0)) (f := fun p => p) (by assumption)]; rfl) (ih (i + 1) (by omega))
theorem f_blank {x y z : Int} {M : Me} {n : Nat} (hn : M 50 3 = (n : Int)) (hn12 : n ≤ 12) {np : Nat} (h5 : M 50 2 = (np : Int)) (h55 : np ≤ 5) : Con kX10_blank 2 0 0 [(1, 0)] (Sf x y z) M (Ex (some (0, bset (fun p : Int => and32 (bset (fun c : Int => M 209 c = p) (fun c => c) n) (bset (fun c : Int => M 52 c = 0) (fun c => c) n) = 0) (fun p => p) np)) (Sf x y z) M) := by
  refine Con.ofV (al := [(1, 0), (9, 0), (9, 0)]) 2 (by decide) (Nat.le_of_ble_eq_true rfl) rfl ?_
  refine r_iconst dX10_blank_0 (by decide) ?_
  refine r_istore_n dX10_blank_1 rfl (by decide) st1 ?_
  refine r_iconst dX10_blank_2 (by decide) ?_
  refine r_istore_n dX10_blank_3 rfl (by decide) st2 ?_
  exact l_blankC hn hn12 h5 h55 np 0 (by omega)
