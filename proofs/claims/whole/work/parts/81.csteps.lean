abbrev nCC (M : Me) : Nat := (M 50 3).toNat
theorem CI.n {M : Me} (h : CI M) : M 50 3 = (nCC M : Int) ∧ nCC M ≤ 12 := by
  have := h.c
  exact ⟨(Int.toNat_of_nonneg this.1).symm, by show (M 50 3).toNat ≤ 12; omega⟩
def fpV (M : Me) (n : Nat) (c : Int) : Int := if psV M c = 0 then -1 else psC M n c 53 c
def fdV (M : Me) (n : Nat) (k : Int) : Int := if k < 1 ∨ 9 < k then -1 else (dnS (keC M) n k n).2
def fdC (M : Me) (n : Nat) (k : Int) : Me := if k < 1 ∨ 9 < k then M else (dnS (keC M) n k n).1
def fhV (M : Me) (n : Nat) (k : Int) : Int := if k < 1 ∨ 60 < k ∨ 9999 < M 50 0 + k then -1 else hsM M n k 50 0
def fhM (M : Me) (n : Nat) (k : Int) : Me := if k < 1 ∨ 60 < k ∨ 9999 < M 50 0 + k then M else hsM M n k
theorem psC_n {M : Me} {n : Nat} {c : Int} (h : psV M c ≠ 0) : 0 ≤ c ∧ c < M 50 3 := by
  unfold psV at h
  split at h
  · rename_i q; exact q.1
  · exact absurd rfl h
theorem bic_v {v : Int} (h : v = 0 ∨ v = 1) : 0 ≤ v ∧ v ≤ 1 := by omega
theorem psV_b {M : Me} {c : Int} : psV M c = 0 ∨ psV M c = 1 := by unfold psV; split <;> omega
theorem ptV_b {M : Me} {n : Nat} {c : Int} : ptV M n c = 0 ∨ ptV M n c = 1 := by unfold ptV; split <;> omega
theorem ttV_b {M : Me} {a b : Int} : ttV M a b = 0 ∨ ttV M a b = 1 := by unfold ttV; split <;> omega
theorem thV_b {h : Int} : thV h = 0 ∨ thV h = 1 := by unfold thV; split <;> omega
theorem f_press {x y z : Int} {M : Me} {c : Int} (h : CI M) {n : Nat} (hn : M 50 3 = (n : Int)) (hn12 : n ≤ 12) : Con kX10_press 7 0 0 [(1, 0), (0, c)] (Sf x y z) M (Ex (some (0, fpV M n c)) (Sf x y z) (psC M n c)) := by
  refine Con.ofV (al := [(1, 0), (0, c)]) 0 (by decide) (Nat.le_of_ble_eq_true rfl) rfl ?_
  have h3 := h.c
  have hb := psV_b (M := M) (c := c)
  have hc := psC_n (M := M) (n := n) (c := c)
  refine r_aload_n dX10_press_0 rfl (by decide) ?_
  refine r_getr (x := 49) dX10_press_1 flX10_52 sf0 (by decide) (by decide) rfl rfl ?_
  refine r_iload_n dX10_press_4 rfl ?_
  refine r_cv1 dX10_press_5 clX10_102 sf49 (by decide) (by decide) rfl (by first | decide | omega) (Nat.le_of_ble_eq_true rfl) ((c_pressStep h hn hn12)) ⟨Nat.zero_le _, Nat.zero_le _⟩ (fun _ => ?_)
  refine r_if_eq (tgt := 26) dX10_press_8 (by decide) (fun h8 => ?_) (fun h8 => ?_)
  · refine r_iconst dX10_press_26 (by decide) ?_
    refine r_iret dX10_press_27 rfl ?_
    first | exact ⟨by unfold fpV; rw [if_neg (by assumption)], rfl, rfl⟩ | exact ⟨by unfold fpV; rw [if_pos (by assumption)], rfl, rfl⟩
  · refine r_aload_n dX10_press_11 rfl (by decide) ?_
    refine r_getr (x := 49) dX10_press_12 flX10_52 sf0 (by decide) (by decide) rfl rfl ?_
    refine r_getr (x := 50) dX10_press_15 flX10_105 sf49 (by decide) (by decide) rfl rfl ?_
    refine r_getr (x := 53) dX10_press_18 flX10_109 sf50 (by decide) (by decide) rfl rfl ?_
    refine r_iload_n dX10_press_21 rfl ?_
    have hc2 := hc (by assumption)
    refine r_iald dX10_press_22 sf53 (by decide) (by omega) (by omega) (by decide) rfl ?_
    refine r_goto (tgt := 27) dX10_press_23 (by decide) ?_
    refine r_iret dX10_press_27 rfl ?_
    first | exact ⟨by unfold fpV; rw [if_neg (by assumption)], rfl, rfl⟩ | exact ⟨by unfold fpV; rw [if_pos (by assumption)], rfl, rfl⟩
theorem f_pattern {x y z : Int} {M : Me} {c : Int} (h : CI M) {n : Nat} (hn : M 50 3 = (n : Int)) (hn12 : n ≤ 12) : Con kX10_pattern 4 0 0 [(1, 0), (0, c)] (Sf x y z) M (Ex (some (0, ptV M n c)) (Sf x y z) (ptC M n c)) := by
  refine Con.ofV (al := [(1, 0), (0, c)]) 0 (by decide) (Nat.le_of_ble_eq_true rfl) rfl ?_
  have hb := ptV_b (M := M) (n := n) (c := c)
  refine r_aload_n dX10_pattern_0 rfl (by decide) ?_
  refine r_getr (x := 49) dX10_pattern_1 flX10_52 sf0 (by decide) (by decide) rfl rfl ?_
  refine r_iload_n dX10_pattern_4 rfl ?_
  refine r_cv1 dX10_pattern_5 clX10_115 sf49 (by decide) (by decide) rfl (by first | decide | omega) (Nat.le_of_ble_eq_true rfl) ((c_patternStep h hn hn12)) ⟨Nat.zero_le _, Nat.zero_le _⟩ (fun _ => ?_)
  refine r_zret dX10_pattern_8 rfl (by omega) ?_
  exact ⟨rfl, rfl, rfl⟩
theorem f_damp {x y z : Int} {M : Me} {k : Int} (h : CI M) {n : Nat} (hn : M 50 3 = (n : Int)) (hn12 : n ≤ 12) : Con kX10_damp 5 0 0 [(1, 0), (0, k)] (Sf x y z) M (Ex (some (0, fdV M n k)) (Sf x y z) (fdC M n k)) := by
  refine Con.ofV (al := [(1, 0), (0, k)]) 0 (by decide) (Nat.le_of_ble_eq_true rfl) rfl ?_
  refine r_iload_n dX10_damp_0 rfl ?_
  refine r_iconst dX10_damp_1 (by decide) ?_
  refine r_icmp_lt (tgt := 11) dX10_damp_2 (by decide) (fun h2 => ?_) (fun h2 => ?_)
  · refine r_iconst dX10_damp_11 (by decide) ?_
    refine r_goto (tgt := 23) dX10_damp_12 (by decide) ?_
    refine r_iret dX10_damp_23 rfl ?_
    first | (exfalso; omega) | exact ⟨by unfold fdV; rw [if_pos (by first | omega | assumption)], rfl, by unfold fdC; rw [if_pos (by first | omega | assumption)]⟩ | exact ⟨by unfold fdV; rw [if_neg (by first | omega | assumption)], rfl, by unfold fdC; rw [if_neg (by first | omega | assumption)]⟩
  · refine r_iload_n dX10_damp_5 rfl ?_
    refine r_bipush dX10_damp_6 (by decide) (by decide) ?_
    refine r_icmp_le (tgt := 15) dX10_damp_8 (by decide) (fun h8 => ?_) (fun h8 => ?_)
    · refine r_aload_n dX10_damp_15 rfl (by decide) ?_
      refine r_getr (x := 49) dX10_damp_16 flX10_52 sf0 (by decide) (by decide) rfl rfl ?_
      refine r_iload_n dX10_damp_19 rfl ?_
      refine r_cv1 dX10_damp_20 clX10_118 sf49 (by decide) (by decide) rfl (by first | decide | omega) (Nat.le_of_ble_eq_true rfl) ((c_dampStep h hn hn12)) ⟨Nat.zero_le _, Nat.zero_le _⟩ (fun _ => ?_)
      refine r_iret dX10_damp_23 rfl ?_
      first | (exfalso; omega) | exact ⟨by unfold fdV; rw [if_pos (by first | omega | assumption)], rfl, by unfold fdC; rw [if_pos (by first | omega | assumption)]⟩ | exact ⟨by unfold fdV; rw [if_neg (by first | omega | assumption)], rfl, by unfold fdC; rw [if_neg (by first | omega | assumption)]⟩
    · refine r_iconst dX10_damp_11 (by decide) ?_
      refine r_goto (tgt := 23) dX10_damp_12 (by decide) ?_
      refine r_iret dX10_damp_23 rfl ?_
      first | (exfalso; omega) | exact ⟨by unfold fdV; rw [if_pos (by first | omega | assumption)], rfl, by unfold fdC; rw [if_pos (by first | omega | assumption)]⟩ | exact ⟨by unfold fdV; rw [if_neg (by first | omega | assumption)], rfl, by unfold fdC; rw [if_neg (by first | omega | assumption)]⟩
theorem f_hour {x y z : Int} {M : Me} {k : Int} (h : CI M) {n : Nat} (hn : M 50 3 = (n : Int)) (hn12 : n ≤ 12) : Con kX10_hour 4 0 0 [(1, 0), (0, k)] (Sf x y z) M (Ex (some (0, fhV M n k)) (Sf x y z) (fhM M n k)) := by
  refine Con.ofV (al := [(1, 0), (0, k)]) 0 (by decide) (Nat.le_of_ble_eq_true rfl) rfl ?_
  have hh := h.h
  refine r_iload_n dX10_hour_0 rfl ?_
  refine r_iconst dX10_hour_1 (by decide) ?_
  refine r_icmp_lt (tgt := 29) dX10_hour_2 (by decide) (fun h2 => ?_) (fun h2 => ?_)
  · refine r_iconst dX10_hour_29 (by decide) ?_
    refine r_iret dX10_hour_30 rfl ?_
    first | (exfalso; omega) | exact ⟨by unfold fhV; rw [if_pos (by first | omega | assumption)], rfl, by unfold fhM; rw [if_pos (by first | omega | assumption)]⟩ | exact ⟨by unfold fhV; rw [if_neg (by first | omega | assumption)], rfl, by unfold fhM; rw [if_neg (by first | omega | assumption)]⟩
  · refine r_iload_n dX10_hour_5 rfl ?_
    refine r_bipush dX10_hour_6 (by decide) (by decide) ?_
    refine r_icmp_gt (tgt := 29) dX10_hour_8 (by decide) (fun h8 => ?_) (fun h8 => ?_)
    · refine r_iconst dX10_hour_29 (by decide) ?_
      refine r_iret dX10_hour_30 rfl ?_
      first | (exfalso; omega) | exact ⟨by unfold fhV; rw [if_pos (by first | omega | assumption)], rfl, by unfold fhM; rw [if_pos (by first | omega | assumption)]⟩ | exact ⟨by unfold fhV; rw [if_neg (by first | omega | assumption)], rfl, by unfold fhM; rw [if_neg (by first | omega | assumption)]⟩
    · refine r_aload_n dX10_hour_11 rfl (by decide) ?_
      refine r_getr (x := 49) dX10_hour_12 flX10_52 sf0 (by decide) (by decide) rfl rfl ?_
      refine r_getr (x := 50) dX10_hour_15 flX10_105 sf49 (by decide) (by decide) rfl rfl ?_
      refine r_gi 0 dX10_hour_18 flX10_121 sf50 (by decide) (by decide) rfl rfl rfl ?_
      refine r_iload_n dX10_hour_21 rfl ?_
      refine r_iadd dX10_hour_22 (w32_id (by omega)) ?_
      refine r_sipush dX10_hour_23 (by decide) (by decide) ?_
      refine r_icmp_le (tgt := 31) dX10_hour_26 (by decide) (fun h26 => ?_) (fun h26 => ?_)
      · refine r_aload_n dX10_hour_31 rfl (by decide) ?_
        refine r_getr (x := 49) dX10_hour_32 flX10_52 sf0 (by decide) (by decide) rfl rfl ?_
        refine r_iload_n dX10_hour_35 rfl ?_
        refine r_cv1 dX10_hour_36 clX10_124 sf49 (by decide) (by decide) rfl (by first | decide | omega) (Nat.le_of_ble_eq_true rfl) ((c_hourSteps h hn hn12)) ⟨Nat.zero_le _, Nat.zero_le _⟩ (fun _ => ?_)
        refine r_pop dX10_hour_39 (Nat.ne_of_beq_eq_false rfl) ?_
        refine r_aload_n dX10_hour_40 rfl (by decide) ?_
        refine r_getr (x := 49) dX10_hour_41 flX10_52 sf0 (by decide) (by decide) rfl rfl ?_
        refine r_getr (x := 50) dX10_hour_44 flX10_105 sf49 (by decide) (by decide) rfl rfl ?_
        refine r_gi 0 dX10_hour_47 flX10_121 sf50 (by decide) (by decide) rfl rfl rfl ?_
        refine r_iret dX10_hour_50 rfl ?_
        first | (exfalso; omega) | exact ⟨by unfold fhV; rw [if_pos (by first | omega | assumption)], rfl, by unfold fhM; rw [if_pos (by first | omega | assumption)]⟩ | exact ⟨by unfold fhV; rw [if_neg (by first | omega | assumption)], rfl, by unfold fhM; rw [if_neg (by first | omega | assumption)]⟩
      · refine r_iconst dX10_hour_29 (by decide) ?_
        refine r_iret dX10_hour_30 rfl ?_
        first | (exfalso; omega) | exact ⟨by unfold fhV; rw [if_pos (by first | omega | assumption)], rfl, by unfold fhM; rw [if_pos (by first | omega | assumption)]⟩ | exact ⟨by unfold fhV; rw [if_neg (by first | omega | assumption)], rfl, by unfold fhM; rw [if_neg (by first | omega | assumption)]⟩
def fsV (M : Me) (n : Nat) (u k : Int) : Int := if u < 0 ∨ 9999 < u ∨ k < 1 ∨ 40 < k then -1 else seS (sePre M u) n k.toNat 50 0
def fsM (M : Me) (n : Nat) (u k : Int) : Me := if u < 0 ∨ 9999 < u ∨ k < 1 ∨ 40 < k then M else seS (sePre M u) n k.toNat
theorem c_seasonI {x y z : Int} {M : Me} (h : CI M) {n : Nat} (hn : M 50 3 = (n : Int)) (hn12 : n ≤ 12) {u k : Int} (hu : 0 ≤ u ∧ u ≤ 9999) (hk : 0 ≤ k ∧ k ≤ 40) : Con kX6_seasonStep 7 0 0 [(1, 49), (0, u), (0, k)] (Sf x y z) M (Ex (some (0, seS (sePre M u) n k.toNat 50 0)) (Sf x y z) (seS (sePre M u) n k.toNat)) := by
  obtain ⟨k, rfl⟩ := Int.eq_ofNat_of_zero_le hk.1
  exact c_seasonStep h hn hn12 hu (by omega)
theorem f_seasons {x y z : Int} {M : Me} {u k : Int} (h : CI M) {n : Nat} (hn : M 50 3 = (n : Int)) (hn12 : n ≤ 12) : Con kX10_seasons 8 0 0 [(1, 0), (0, u), (0, k)] (Sf x y z) M (Ex (some (0, fsV M n u k)) (Sf x y z) (fsM M n u k)) := by
  refine Con.ofV (al := [(1, 0), (0, u), (0, k)]) 0 (by decide) (Nat.le_of_ble_eq_true rfl) rfl ?_
  refine r_iload_n dX10_seasons_0 rfl ?_
  refine r_if_lt (tgt := 22) dX10_seasons_1 (by decide) (fun h1 => ?_) (fun h1 => ?_)
  · refine r_iconst dX10_seasons_22 (by decide) ?_
    refine r_iret dX10_seasons_23 rfl ?_
    first | (exfalso; omega) | exact ⟨by unfold fsV; rw [if_pos (by first | omega | assumption)], rfl, by unfold fsM; rw [if_pos (by first | omega | assumption)]⟩ | exact ⟨by unfold fsV; rw [if_neg (by first | omega | assumption)], rfl, by unfold fsM; rw [if_neg (by first | omega | assumption)]⟩
  · refine r_iload_n dX10_seasons_4 rfl ?_
    refine r_sipush dX10_seasons_5 (by decide) (by decide) ?_
    refine r_icmp_gt (tgt := 22) dX10_seasons_8 (by decide) (fun h8 => ?_) (fun h8 => ?_)
    · refine r_iconst dX10_seasons_22 (by decide) ?_
      refine r_iret dX10_seasons_23 rfl ?_
      first | (exfalso; omega) | exact ⟨by unfold fsV; rw [if_pos (by first | omega | assumption)], rfl, by unfold fsM; rw [if_pos (by first | omega | assumption)]⟩ | exact ⟨by unfold fsV; rw [if_neg (by first | omega | assumption)], rfl, by unfold fsM; rw [if_neg (by first | omega | assumption)]⟩
    · refine r_iload_n dX10_seasons_11 rfl ?_
      refine r_iconst dX10_seasons_12 (by decide) ?_
      refine r_icmp_lt (tgt := 22) dX10_seasons_13 (by decide) (fun h13 => ?_) (fun h13 => ?_)
      · refine r_iconst dX10_seasons_22 (by decide) ?_
        refine r_iret dX10_seasons_23 rfl ?_
        first | (exfalso; omega) | exact ⟨by unfold fsV; rw [if_pos (by first | omega | assumption)], rfl, by unfold fsM; rw [if_pos (by first | omega | assumption)]⟩ | exact ⟨by unfold fsV; rw [if_neg (by first | omega | assumption)], rfl, by unfold fsM; rw [if_neg (by first | omega | assumption)]⟩
      · refine r_iload_n dX10_seasons_16 rfl ?_
        refine r_bipush dX10_seasons_17 (by decide) (by decide) ?_
        refine r_icmp_le (tgt := 24) dX10_seasons_19 (by decide) (fun h19 => ?_) (fun h19 => ?_)
        · refine r_aload_n dX10_seasons_24 rfl (by decide) ?_
          refine r_getr (x := 49) dX10_seasons_25 flX10_52 sf0 (by decide) (by decide) rfl rfl ?_
          refine r_iload_n dX10_seasons_28 rfl ?_
          refine r_iload_n dX10_seasons_29 rfl ?_
          refine r_cv2 dX10_seasons_30 clX10_140 sf49 (by decide) (by decide) rfl (by first | decide | omega) (Nat.le_of_ble_eq_true rfl) ((c_seasonI h hn hn12 (by omega) (by omega))) ⟨Nat.zero_le _, Nat.zero_le _⟩ (fun _ => ?_)
          refine r_iret dX10_seasons_33 rfl ?_
          first | (exfalso; omega) | exact ⟨by unfold fsV; rw [if_pos (by first | omega | assumption)], rfl, by unfold fsM; rw [if_pos (by first | omega | assumption)]⟩ | exact ⟨by unfold fsV; rw [if_neg (by first | omega | assumption)], rfl, by unfold fsM; rw [if_neg (by first | omega | assumption)]⟩
        · refine r_iconst dX10_seasons_22 (by decide) ?_
          refine r_iret dX10_seasons_23 rfl ?_
          first | (exfalso; omega) | exact ⟨by unfold fsV; rw [if_pos (by first | omega | assumption)], rfl, by unfold fsM; rw [if_pos (by first | omega | assumption)]⟩ | exact ⟨by unfold fsV; rw [if_neg (by first | omega | assumption)], rfl, by unfold fsM; rw [if_neg (by first | omega | assumption)]⟩
theorem f_undo {x y z : Int} {M : Me} (h : CI M) (hq : 0 ≤ M (ubQ M) 2 ∧ 0 ≤ M (ubQ M) 3) : Con kX10_undo 3 0 0 [(1, 0)] (Sf x y z) M (Ex (some (0, ubV M)) (Sf x y z) (ubM M)) := by
  refine Con.ofV (al := [(1, 0)]) 0 (by decide) (Nat.le_of_ble_eq_true rfl) rfl ?_
  refine r_aload_n dX10_undo_0 rfl (by decide) ?_
  refine r_getr (x := 49) dX10_undo_1 flX10_52 sf0 (by decide) (by decide) rfl rfl ?_
  refine r_cv0 dX10_undo_4 clX10_143 sf49 (by decide) (by decide) rfl (by first | decide | omega) (Nat.le_of_ble_eq_true rfl) ((c_takeBack h hq)) ⟨Nat.zero_le _, Nat.zero_le _⟩ (fun _ => ?_)
  refine r_iret dX10_undo_7 rfl ?_
  exact ⟨rfl, rfl, rfl⟩
theorem f_image {x y z : Int} {M : Me} {n : Nat} (hn : M 55 0 = (n : Int)) (hn30 : n ≤ 30) (hf : 0 ≤ M 55 1 ∧ M 55 1 < 30) (hl : (0 ≤ M 215 0 ∧ M 215 0 ≤ 8) ∧ (0 ≤ M 219 0 ∧ M 219 0 ≤ 8) ∧ (0 ≤ M 223 0 ∧ M 223 0 ≤ 8) ∧ (0 ≤ M 227 0 ∧ M 227 0 ≤ 6) ∧ (0 ≤ M 231 0 ∧ M 231 0 ≤ 8) ∧ (0 ≤ M 235 0 ∧ M 235 0 ≤ 8)) : Con kX10_image 4 0 0 [(1, 0)] (Sf x y z) M (Ex (some (0, sp_i M n 50 0)) (Sf x y z) (sp_i M n)) := by
  refine Con.ofV (al := [(1, 0)]) 0 (by decide) (Nat.le_of_ble_eq_true rfl) rfl ?_
  refine r_aload_n dX10_image_0 rfl (by decide) ?_
  refine r_getr (x := 239) dX10_image_1 flX10_56 sf0 (by decide) (by decide) rfl rfl ?_
  refine r_aload_n dX10_image_4 rfl (by decide) ?_
  refine r_getr (x := 49) dX10_image_5 flX10_52 sf0 (by decide) (by decide) rfl rfl ?_
  refine r_cw1 dX10_image_8 clX10_320 sf239 (by decide) (by decide) rfl (by first | decide | omega) (Nat.le_of_ble_eq_true rfl) ((c_spcopy_i hn hn30 hf hl)) ⟨Nat.zero_le _, Nat.zero_le _⟩ ?_
  refine r_aload_n dX10_image_11 rfl (by decide) ?_
  refine r_getr (x := 49) dX10_image_12 flX10_52 sf0 (by decide) (by decide) rfl rfl ?_
  refine r_getr (x := 50) dX10_image_15 flX10_105 sf49 (by decide) (by decide) rfl rfl ?_
  refine r_gi 0 dX10_image_18 flX10_121 sf50 (by decide) (by decide) rfl rfl rfl ?_
  refine r_iret dX10_image_21 rfl ?_
  exact ⟨rfl, rfl, rfl⟩
theorem f_back {x y z : Int} {M : Me} {n : Nat} (hn : M 245 0 = (n : Int)) (hn30 : n ≤ 30) (hf : 0 ≤ M 245 1 ∧ M 245 1 < 30) (hl : (0 ≤ M 405 0 ∧ M 405 0 ≤ 8) ∧ (0 ≤ M 409 0 ∧ M 409 0 ≤ 8) ∧ (0 ≤ M 413 0 ∧ M 413 0 ≤ 8) ∧ (0 ≤ M 417 0 ∧ M 417 0 ≤ 6) ∧ (0 ≤ M 421 0 ∧ M 421 0 ≤ 8) ∧ (0 ≤ M 425 0 ∧ M 425 0 ≤ 8)) : Con kX10_back 4 0 0 [(1, 0)] (Sf x y z) M (Ex (some (0, sp_b M n 50 0)) (Sf x y z) (sp_b M n)) := by
  refine Con.ofV (al := [(1, 0)]) 0 (by decide) (Nat.le_of_ble_eq_true rfl) rfl ?_
  refine r_aload_n dX10_back_0 rfl (by decide) ?_
  refine r_getr (x := 49) dX10_back_1 flX10_52 sf0 (by decide) (by decide) rfl rfl ?_
  refine r_aload_n dX10_back_4 rfl (by decide) ?_
  refine r_getr (x := 239) dX10_back_5 flX10_56 sf0 (by decide) (by decide) rfl rfl ?_
  refine r_cw1 dX10_back_8 clX10_320 sf49 (by decide) (by decide) rfl (by first | decide | omega) (Nat.le_of_ble_eq_true rfl) ((c_spcopy_b hn hn30 hf hl)) ⟨Nat.zero_le _, Nat.zero_le _⟩ ?_
  refine r_aload_n dX10_back_11 rfl (by decide) ?_
  refine r_getr (x := 49) dX10_back_12 flX10_52 sf0 (by decide) (by decide) rfl rfl ?_
  refine r_getr (x := 50) dX10_back_15 flX10_105 sf49 (by decide) (by decide) rfl rfl ?_
  refine r_gi 0 dX10_back_18 flX10_121 sf50 (by decide) (by decide) rfl rfl rfl ?_
  refine r_iret dX10_back_21 rfl ?_
  exact ⟨rfl, rfl, rfl⟩
def cdV (M : Me) (q i : Int) : Int := if M (q + 3) i = 19 then (if tpV M (M (q + 5 + 0) i) (M (q + 5 + 1) i) = -1 then 0 else 1) else if M (q + 3) i = 20 then (if tcV M (M (q + 5 + 0) i) (M (q + 5 + 1) i) (M (q + 5 + 2) i) 1 = -1 then 0 else 1) else if M (q + 3) i = 21 then (ttV M (M (q + 5 + 0) i) (M (q + 5 + 1) i)) else if M (q + 3) i = 22 then (psV M (M (q + 5 + 0) i)) else if M (q + 3) i = 23 then (ptV M (nCC M) (M (q + 5 + 0) i)) else if M (q + 3) i = 24 then (if (dnS (keC M) (nCC M) (M (q + 5 + 0) i) (nCC M)).2 < 0 then 0 else 1) else if M (q + 3) i = 25 then (thV (M (q + 5 + 0) i)) else if M (q + 3) i = 26 then (if hsN M (M (q + 5 + 0) i) = (M (q + 5 + 0) i) then 1 else 0) else 1
def cdM (M : Me) (q i : Int) : Me := if M (q + 3) i = 19 then tpM M (M (q + 5 + 0) i) (M (q + 5 + 1) i) else if M (q + 3) i = 20 then tcN M (M (q + 5 + 0) i) (M (q + 5 + 1) i) (M (q + 5 + 2) i) 1 else if M (q + 3) i = 21 then ttM M (nCC M) (M (q + 5 + 0) i) (M (q + 5 + 1) i) else if M (q + 3) i = 22 then psC M (nCC M) (M (q + 5 + 0) i) else if M (q + 3) i = 23 then ptC M (nCC M) (M (q + 5 + 0) i) else if M (q + 3) i = 24 then (dnS (keC M) (nCC M) (M (q + 5 + 0) i) (nCC M)).1 else if M (q + 3) i = 25 then thM M (M (q + 5 + 0) i) else if M (q + 3) i = 26 then hsM M (nCC M) (M (q + 5 + 0) i) else M
theorem f_clauseDone {x y z : Int} {M : Me} (h : CI M) {q i : Int} (hq : TS (Sf x y z) q) (hx : 15 ≤ q ∧ q ≤ 39) (hi : 0 ≤ i ∧ i < M q 0) (h0 : M q 0 ≤ 24) : Con kX10_clauseDone 8 0 0 [(1, 0), (1, q), (0, i)] (Sf x y z) M (Ex (some (0, cdV M q i)) (Sf x y z) (cdM M q i)) := by
  refine Con.ofV (al := [(1, 0), (1, q), (0, i), (9, 0), (9, 0)]) 2 (by decide) (Nat.le_of_ble_eq_true rfl) rfl ?_
  obtain ⟨hn, hn12⟩ := h.n
  have q0 := hq.1
  have b1 := psV_b (M := M) (c := (M (q + 5 + 0) i))
  have b2 := ptV_b (M := M) (n := nCC M) (c := (M (q + 5 + 0) i))
  have b3 := ttV_b (M := M) (a := (M (q + 5 + 0) i)) (b := (M (q + 5 + 1) i))
  have b4 := thV_b (h := (M (q + 5 + 0) i))
  refine r_aload_n dX10_clauseDone_0 rfl (by omega) ?_
  refine r_iload_n dX10_clauseDone_1 rfl ?_
  refine r_iconst dX10_clauseDone_2 (by decide) ?_
  refine r_cv2 dX10_clauseDone_3 clX10_134 q0 (by omega) (by decide) rfl (by first | decide | omega) (Nat.le_of_ble_eq_true rfl) ((c_told hq hx hi h0 (by decide))) ⟨Nat.zero_le _, Nat.zero_le _⟩ (fun _ => ?_)
  refine r_istore_n dX10_clauseDone_6 rfl (by decide) st3 ?_
  refine r_aload_n dX10_clauseDone_7 rfl (by omega) ?_
  refine r_iload_n dX10_clauseDone_8 rfl ?_
  refine r_iconst dX10_clauseDone_9 (by decide) ?_
  refine r_cv2 dX10_clauseDone_10 clX10_134 q0 (by omega) (by decide) rfl (by first | decide | omega) (Nat.le_of_ble_eq_true rfl) ((c_told hq hx hi h0 (by decide))) ⟨Nat.zero_le _, Nat.zero_le _⟩ (fun _ => ?_)
  refine r_istore dX10_clauseDone_13 rfl (by decide) st4 ?_
  refine r_aload_n dX10_clauseDone_15 rfl (by omega) ?_
  refine r_iload_n dX10_clauseDone_16 rfl ?_
  refine r_cv1 dX10_clauseDone_17 clX10_137 q0 (by omega) (by decide) rfl (by first | decide | omega) (Nat.le_of_ble_eq_true rfl) ((c_kindT hq hx hi h0)) ⟨Nat.zero_le _, Nat.zero_le _⟩ (fun _ => ?_)
  rcases (show (M (q + 3) i < 19 ∨ 26 < M (q + 3) i) ∨ M (q + 3) i = 19 ∨ M (q + 3) i = 20 ∨ M (q + 3) i = 21 ∨ M (q + 3) i = 22 ∨ M (q + 3) i = 23 ∨ M (q + 3) i = 24 ∨ M (q + 3) i = 25 ∨ M (q + 3) i = 26 by omega) with hsw | hsw | hsw | hsw | hsw | hsw | hsw | hsw | hsw
  · refine r_tabOut (tgt := 188) dX10_clauseDone_20 hsw (by decide) ?_
    refine r_iconst dX10_clauseDone_188 (by decide) ?_
    refine r_zret dX10_clauseDone_189 rfl (by omega) ?_
    first | (exfalso; omega) | exact ⟨by show _ = some (0, cdV M q i); unfold cdV; rw [if_neg (by first | omega | assumption), if_neg (by first | omega | assumption), if_neg (by first | omega | assumption), if_neg (by first | omega | assumption), if_neg (by first | omega | assumption), if_neg (by first | omega | assumption), if_neg (by first | omega | assumption), if_neg (by first | omega | assumption)], rfl, by show _ = cdM M q i; unfold cdM; rw [if_neg (by first | omega | assumption), if_neg (by first | omega | assumption), if_neg (by first | omega | assumption), if_neg (by first | omega | assumption), if_neg (by first | omega | assumption), if_neg (by first | omega | assumption), if_neg (by first | omega | assumption), if_neg (by first | omega | assumption)]⟩
  · refine r_tabEq (tgt := 68) dX10_clauseDone_20 hsw (by decide) (by decide) rfl (by decide) ?_
    refine r_aload_n dX10_clauseDone_68 rfl (by decide) ?_
    refine r_getr (x := 49) dX10_clauseDone_69 flX10_52 sf0 (by decide) (by decide) rfl rfl ?_
    refine r_iload_n dX10_clauseDone_72 rfl ?_
    refine r_iload dX10_clauseDone_73 rfl ?_
    refine r_cv2 dX10_clauseDone_75 clX10_59 sf49 (by decide) (by decide) rfl (by first | decide | omega) (Nat.le_of_ble_eq_true rfl) ((c_tellPerson h)) ⟨Nat.zero_le _, Nat.zero_le _⟩ (fun _ => ?_)
    refine r_iconst dX10_clauseDone_78 (by decide) ?_
    refine r_icmp_eq (tgt := 86) dX10_clauseDone_79 (by decide) (fun h79 => ?_) (fun h79 => ?_)
    · refine r_iconst dX10_clauseDone_86 (by decide) ?_
      refine r_zret dX10_clauseDone_87 rfl (by omega) ?_
      first | (exfalso; omega) | exact ⟨by show _ = some (0, cdV M q i); unfold cdV; rw [if_pos (by first | omega | assumption), if_pos (by first | omega | assumption)], rfl, by show _ = cdM M q i; unfold cdM; rw [if_pos (by first | omega | assumption)]⟩ | exact ⟨by show _ = some (0, cdV M q i); unfold cdV; rw [if_pos (by first | omega | assumption), if_neg (by first | omega | assumption)], rfl, by show _ = cdM M q i; unfold cdM; rw [if_pos (by first | omega | assumption)]⟩
    · refine r_iconst dX10_clauseDone_82 (by decide) ?_
      refine r_goto (tgt := 87) dX10_clauseDone_83 (by decide) ?_
      refine r_zret dX10_clauseDone_87 rfl (by omega) ?_
      first | (exfalso; omega) | exact ⟨by show _ = some (0, cdV M q i); unfold cdV; rw [if_pos (by first | omega | assumption), if_pos (by first | omega | assumption)], rfl, by show _ = cdM M q i; unfold cdM; rw [if_pos (by first | omega | assumption)]⟩ | exact ⟨by show _ = some (0, cdV M q i); unfold cdV; rw [if_pos (by first | omega | assumption), if_neg (by first | omega | assumption)], rfl, by show _ = cdM M q i; unfold cdM; rw [if_pos (by first | omega | assumption)]⟩
  · refine r_tabEq (tgt := 88) dX10_clauseDone_20 hsw (by decide) (by decide) rfl (by decide) ?_
    refine r_aload_n dX10_clauseDone_88 rfl (by decide) ?_
    refine r_getr (x := 49) dX10_clauseDone_89 flX10_52 sf0 (by decide) (by decide) rfl rfl ?_
    refine r_iload_n dX10_clauseDone_92 rfl ?_
    refine r_iload dX10_clauseDone_93 rfl ?_
    refine r_aload_n dX10_clauseDone_95 rfl (by omega) ?_
    refine r_iload_n dX10_clauseDone_96 rfl ?_
    refine r_iconst dX10_clauseDone_97 (by decide) ?_
    refine r_cv2 dX10_clauseDone_98 clX10_134 q0 (by omega) (by decide) rfl (by first | decide | omega) (Nat.le_of_ble_eq_true rfl) ((c_told hq hx hi h0 (by decide))) ⟨Nat.zero_le _, Nat.zero_le _⟩ (fun _ => ?_)
    refine r_iconst dX10_clauseDone_101 (by decide) ?_
    refine r_cv4 dX10_clauseDone_102 clX10_63 sf49 (by decide) (by decide) rfl (by first | decide | omega) (Nat.le_of_ble_eq_true rfl) ((c_tellCrease h)) ⟨Nat.zero_le _, Nat.zero_le _⟩ (fun _ => ?_)
    refine r_iconst dX10_clauseDone_105 (by decide) ?_
    refine r_icmp_eq (tgt := 113) dX10_clauseDone_106 (by decide) (fun h106 => ?_) (fun h106 => ?_)
    · refine r_iconst dX10_clauseDone_113 (by decide) ?_
      refine r_zret dX10_clauseDone_114 rfl (by omega) ?_
      first | (exfalso; omega) | exact ⟨by show _ = some (0, cdV M q i); unfold cdV; rw [if_neg (by first | omega | assumption), if_pos (by first | omega | assumption), if_pos (by first | omega | assumption)], rfl, by show _ = cdM M q i; unfold cdM; rw [if_neg (by first | omega | assumption), if_pos (by first | omega | assumption)]⟩ | exact ⟨by show _ = some (0, cdV M q i); unfold cdV; rw [if_neg (by first | omega | assumption), if_pos (by first | omega | assumption), if_neg (by first | omega | assumption)], rfl, by show _ = cdM M q i; unfold cdM; rw [if_neg (by first | omega | assumption), if_pos (by first | omega | assumption)]⟩
    · refine r_iconst dX10_clauseDone_109 (by decide) ?_
      refine r_goto (tgt := 114) dX10_clauseDone_110 (by decide) ?_
      refine r_zret dX10_clauseDone_114 rfl (by omega) ?_
      first | (exfalso; omega) | exact ⟨by show _ = some (0, cdV M q i); unfold cdV; rw [if_neg (by first | omega | assumption), if_pos (by first | omega | assumption), if_pos (by first | omega | assumption)], rfl, by show _ = cdM M q i; unfold cdM; rw [if_neg (by first | omega | assumption), if_pos (by first | omega | assumption)]⟩ | exact ⟨by show _ = some (0, cdV M q i); unfold cdV; rw [if_neg (by first | omega | assumption), if_pos (by first | omega | assumption), if_neg (by first | omega | assumption)], rfl, by show _ = cdM M q i; unfold cdM; rw [if_neg (by first | omega | assumption), if_pos (by first | omega | assumption)]⟩
  · refine r_tabEq (tgt := 115) dX10_clauseDone_20 hsw (by decide) (by decide) rfl (by decide) ?_
    refine r_aload_n dX10_clauseDone_115 rfl (by decide) ?_
    refine r_getr (x := 49) dX10_clauseDone_116 flX10_52 sf0 (by decide) (by decide) rfl rfl ?_
    refine r_iload_n dX10_clauseDone_119 rfl ?_
    refine r_iload dX10_clauseDone_120 rfl ?_
    refine r_cv2 dX10_clauseDone_122 clX10_67 sf49 (by decide) (by decide) rfl (by first | decide | omega) (Nat.le_of_ble_eq_true rfl) ((c_tellTie hn hn12)) ⟨Nat.zero_le _, Nat.zero_le _⟩ (fun _ => ?_)
    refine r_zret dX10_clauseDone_125 rfl (by omega) ?_
    first | (exfalso; omega) | exact ⟨by show _ = some (0, cdV M q i); unfold cdV; rw [if_neg (by first | omega | assumption), if_neg (by first | omega | assumption), if_pos (by first | omega | assumption)], rfl, by show _ = cdM M q i; unfold cdM; rw [if_neg (by first | omega | assumption), if_neg (by first | omega | assumption), if_pos (by first | omega | assumption)]⟩
  · refine r_tabEq (tgt := 135) dX10_clauseDone_20 hsw (by decide) (by decide) rfl (by decide) ?_
    refine r_aload_n dX10_clauseDone_135 rfl (by decide) ?_
    refine r_getr (x := 49) dX10_clauseDone_136 flX10_52 sf0 (by decide) (by decide) rfl rfl ?_
    refine r_iload_n dX10_clauseDone_139 rfl ?_
    refine r_cv1 dX10_clauseDone_140 clX10_102 sf49 (by decide) (by decide) rfl (by first | decide | omega) (Nat.le_of_ble_eq_true rfl) ((c_pressStep h hn hn12)) ⟨Nat.zero_le _, Nat.zero_le _⟩ (fun _ => ?_)
    refine r_zret dX10_clauseDone_143 rfl (by omega) ?_
    first | (exfalso; omega) | exact ⟨by show _ = some (0, cdV M q i); unfold cdV; rw [if_neg (by first | omega | assumption), if_neg (by first | omega | assumption), if_neg (by first | omega | assumption), if_pos (by first | omega | assumption)], rfl, by show _ = cdM M q i; unfold cdM; rw [if_neg (by first | omega | assumption), if_neg (by first | omega | assumption), if_neg (by first | omega | assumption), if_pos (by first | omega | assumption)]⟩
  · refine r_tabEq (tgt := 144) dX10_clauseDone_20 hsw (by decide) (by decide) rfl (by decide) ?_
    refine r_aload_n dX10_clauseDone_144 rfl (by decide) ?_
    refine r_getr (x := 49) dX10_clauseDone_145 flX10_52 sf0 (by decide) (by decide) rfl rfl ?_
    refine r_iload_n dX10_clauseDone_148 rfl ?_
    refine r_cv1 dX10_clauseDone_149 clX10_115 sf49 (by decide) (by decide) rfl (by first | decide | omega) (Nat.le_of_ble_eq_true rfl) ((c_patternStep h hn hn12)) ⟨Nat.zero_le _, Nat.zero_le _⟩ (fun _ => ?_)
    refine r_zret dX10_clauseDone_152 rfl (by omega) ?_
    first | (exfalso; omega) | exact ⟨by show _ = some (0, cdV M q i); unfold cdV; rw [if_neg (by first | omega | assumption), if_neg (by first | omega | assumption), if_neg (by first | omega | assumption), if_neg (by first | omega | assumption), if_pos (by first | omega | assumption)], rfl, by show _ = cdM M q i; unfold cdM; rw [if_neg (by first | omega | assumption), if_neg (by first | omega | assumption), if_neg (by first | omega | assumption), if_neg (by first | omega | assumption), if_pos (by first | omega | assumption)]⟩
  · refine r_tabEq (tgt := 153) dX10_clauseDone_20 hsw (by decide) (by decide) rfl (by decide) ?_
    refine r_aload_n dX10_clauseDone_153 rfl (by decide) ?_
    refine r_getr (x := 49) dX10_clauseDone_154 flX10_52 sf0 (by decide) (by decide) rfl rfl ?_
    refine r_iload_n dX10_clauseDone_157 rfl ?_
    refine r_cv1 dX10_clauseDone_158 clX10_118 sf49 (by decide) (by decide) rfl (by first | decide | omega) (Nat.le_of_ble_eq_true rfl) ((c_dampStep h hn hn12)) ⟨Nat.zero_le _, Nat.zero_le _⟩ (fun _ => ?_)
    refine r_if_lt (tgt := 168) dX10_clauseDone_161 (by decide) (fun h161 => ?_) (fun h161 => ?_)
    · refine r_iconst dX10_clauseDone_168 (by decide) ?_
      refine r_zret dX10_clauseDone_169 rfl (by omega) ?_
      first | (exfalso; omega) | exact ⟨by show _ = some (0, cdV M q i); unfold cdV; rw [if_neg (by first | omega | assumption), if_neg (by first | omega | assumption), if_neg (by first | omega | assumption), if_neg (by first | omega | assumption), if_neg (by first | omega | assumption), if_pos (by first | omega | assumption), if_pos (by first | omega | assumption)], rfl, by show _ = cdM M q i; unfold cdM; rw [if_neg (by first | omega | assumption), if_neg (by first | omega | assumption), if_neg (by first | omega | assumption), if_neg (by first | omega | assumption), if_neg (by first | omega | assumption), if_pos (by first | omega | assumption)]⟩ | exact ⟨by show _ = some (0, cdV M q i); unfold cdV; rw [if_neg (by first | omega | assumption), if_neg (by first | omega | assumption), if_neg (by first | omega | assumption), if_neg (by first | omega | assumption), if_neg (by first | omega | assumption), if_pos (by first | omega | assumption), if_neg (by first | omega | assumption)], rfl, by show _ = cdM M q i; unfold cdM; rw [if_neg (by first | omega | assumption), if_neg (by first | omega | assumption), if_neg (by first | omega | assumption), if_neg (by first | omega | assumption), if_neg (by first | omega | assumption), if_pos (by first | omega | assumption)]⟩
    · refine r_iconst dX10_clauseDone_164 (by decide) ?_
      refine r_goto (tgt := 169) dX10_clauseDone_165 (by decide) ?_
      refine r_zret dX10_clauseDone_169 rfl (by omega) ?_
      first | (exfalso; omega) | exact ⟨by show _ = some (0, cdV M q i); unfold cdV; rw [if_neg (by first | omega | assumption), if_neg (by first | omega | assumption), if_neg (by first | omega | assumption), if_neg (by first | omega | assumption), if_neg (by first | omega | assumption), if_pos (by first | omega | assumption), if_pos (by first | omega | assumption)], rfl, by show _ = cdM M q i; unfold cdM; rw [if_neg (by first | omega | assumption), if_neg (by first | omega | assumption), if_neg (by first | omega | assumption), if_neg (by first | omega | assumption), if_neg (by first | omega | assumption), if_pos (by first | omega | assumption)]⟩ | exact ⟨by show _ = some (0, cdV M q i); unfold cdV; rw [if_neg (by first | omega | assumption), if_neg (by first | omega | assumption), if_neg (by first | omega | assumption), if_neg (by first | omega | assumption), if_neg (by first | omega | assumption), if_pos (by first | omega | assumption), if_neg (by first | omega | assumption)], rfl, by show _ = cdM M q i; unfold cdM; rw [if_neg (by first | omega | assumption), if_neg (by first | omega | assumption), if_neg (by first | omega | assumption), if_neg (by first | omega | assumption), if_neg (by first | omega | assumption), if_pos (by first | omega | assumption)]⟩
  · refine r_tabEq (tgt := 126) dX10_clauseDone_20 hsw (by decide) (by decide) rfl (by decide) ?_
    refine r_aload_n dX10_clauseDone_126 rfl (by decide) ?_
    refine r_getr (x := 49) dX10_clauseDone_127 flX10_52 sf0 (by decide) (by decide) rfl rfl ?_
    refine r_iload_n dX10_clauseDone_130 rfl ?_
    refine r_cv1 dX10_clauseDone_131 clX10_71 sf49 (by decide) (by decide) rfl (by first | decide | omega) (Nat.le_of_ble_eq_true rfl) (c_tellHeat) ⟨Nat.zero_le _, Nat.zero_le _⟩ (fun _ => ?_)
    refine r_zret dX10_clauseDone_134 rfl (by omega) ?_
    first | (exfalso; omega) | exact ⟨by show _ = some (0, cdV M q i); unfold cdV; rw [if_neg (by first | omega | assumption), if_neg (by first | omega | assumption), if_neg (by first | omega | assumption), if_neg (by first | omega | assumption), if_neg (by first | omega | assumption), if_neg (by first | omega | assumption), if_pos (by first | omega | assumption)], rfl, by show _ = cdM M q i; unfold cdM; rw [if_neg (by first | omega | assumption), if_neg (by first | omega | assumption), if_neg (by first | omega | assumption), if_neg (by first | omega | assumption), if_neg (by first | omega | assumption), if_neg (by first | omega | assumption), if_pos (by first | omega | assumption)]⟩
  · refine r_tabEq (tgt := 170) dX10_clauseDone_20 hsw (by decide) (by decide) rfl (by decide) ?_
    refine r_aload_n dX10_clauseDone_170 rfl (by decide) ?_
    refine r_getr (x := 49) dX10_clauseDone_171 flX10_52 sf0 (by decide) (by decide) rfl rfl ?_
    refine r_iload_n dX10_clauseDone_174 rfl ?_
    refine r_cv1 dX10_clauseDone_175 clX10_124 sf49 (by decide) (by decide) rfl (by first | decide | omega) (Nat.le_of_ble_eq_true rfl) ((c_hourSteps h hn hn12)) ⟨Nat.zero_le _, Nat.zero_le _⟩ (fun _ => ?_)
    refine r_iload_n dX10_clauseDone_178 rfl ?_
    refine r_icmp_ne (tgt := 186) dX10_clauseDone_179 (by decide) (fun h179 => ?_) (fun h179 => ?_)
    · refine r_iconst dX10_clauseDone_186 (by decide) ?_
      refine r_zret dX10_clauseDone_187 rfl (by omega) ?_
      first | (exfalso; omega) | exact ⟨by show _ = some (0, cdV M q i); unfold cdV; rw [if_neg (by first | omega | assumption), if_neg (by first | omega | assumption), if_neg (by first | omega | assumption), if_neg (by first | omega | assumption), if_neg (by first | omega | assumption), if_neg (by first | omega | assumption), if_neg (by first | omega | assumption), if_pos (by first | omega | assumption), if_pos (by first | omega | assumption)], rfl, by show _ = cdM M q i; unfold cdM; rw [if_neg (by first | omega | assumption), if_neg (by first | omega | assumption), if_neg (by first | omega | assumption), if_neg (by first | omega | assumption), if_neg (by first | omega | assumption), if_neg (by first | omega | assumption), if_neg (by first | omega | assumption), if_pos (by first | omega | assumption)]⟩ | exact ⟨by show _ = some (0, cdV M q i); unfold cdV; rw [if_neg (by first | omega | assumption), if_neg (by first | omega | assumption), if_neg (by first | omega | assumption), if_neg (by first | omega | assumption), if_neg (by first | omega | assumption), if_neg (by first | omega | assumption), if_neg (by first | omega | assumption), if_pos (by first | omega | assumption), if_neg (by first | omega | assumption)], rfl, by show _ = cdM M q i; unfold cdM; rw [if_neg (by first | omega | assumption), if_neg (by first | omega | assumption), if_neg (by first | omega | assumption), if_neg (by first | omega | assumption), if_neg (by first | omega | assumption), if_neg (by first | omega | assumption), if_neg (by first | omega | assumption), if_pos (by first | omega | assumption)]⟩
    · refine r_iconst dX10_clauseDone_182 (by decide) ?_
      refine r_goto (tgt := 187) dX10_clauseDone_183 (by decide) ?_
      refine r_zret dX10_clauseDone_187 rfl (by omega) ?_
      first | (exfalso; omega) | exact ⟨by show _ = some (0, cdV M q i); unfold cdV; rw [if_neg (by first | omega | assumption), if_neg (by first | omega | assumption), if_neg (by first | omega | assumption), if_neg (by first | omega | assumption), if_neg (by first | omega | assumption), if_neg (by first | omega | assumption), if_neg (by first | omega | assumption), if_pos (by first | omega | assumption), if_pos (by first | omega | assumption)], rfl, by show _ = cdM M q i; unfold cdM; rw [if_neg (by first | omega | assumption), if_neg (by first | omega | assumption), if_neg (by first | omega | assumption), if_neg (by first | omega | assumption), if_neg (by first | omega | assumption), if_neg (by first | omega | assumption), if_neg (by first | omega | assumption), if_pos (by first | omega | assumption)]⟩ | exact ⟨by show _ = some (0, cdV M q i); unfold cdV; rw [if_neg (by first | omega | assumption), if_neg (by first | omega | assumption), if_neg (by first | omega | assumption), if_neg (by first | omega | assumption), if_neg (by first | omega | assumption), if_neg (by first | omega | assumption), if_neg (by first | omega | assumption), if_pos (by first | omega | assumption), if_neg (by first | omega | assumption)], rfl, by show _ = cdM M q i; unfold cdM; rw [if_neg (by first | omega | assumption), if_neg (by first | omega | assumption), if_neg (by first | omega | assumption), if_neg (by first | omega | assumption), if_neg (by first | omega | assumption), if_neg (by first | omega | assumption), if_neg (by first | omega | assumption), if_pos (by first | omega | assumption)]⟩
/-- so many clauses of the text at q, as long as they hold -/
def pcC (M : Me) (q : Int) : Nat → Me
  | 0 => M
  | i + 1 => cdM (pcC M q i) q i
/-- the place where the playing stopped (the number of clauses where it did not) -/
def pcN (M : Me) (q : Int) : Nat → Nat → Nat
  | 0, i => i
  | m + 1, i => if cdV (pcC M q i) q i = 0 then i else pcN M q m (i + 1)
theorem pcN_0 {M : Me} {q : Int} {m i : Nat} (h : cdV (pcC M q i) q i = 0) : pcN M q (m + 1) i = i := if_pos h
theorem pcN_1 {M : Me} {q : Int} {m i : Nat} (h : cdV (pcC M q i) q i ≠ 0) : pcN M q (m + 1) i = pcN M q m (i + 1) := if_neg h
abbrev pkN (M : Me) (q : Int) : Nat := (M q 0).toNat
def fyV (M : Me) (t : Int) : Int := if t < 0 ∨ M 49 1 ≤ t then -2 else if pcN M (15 + 8 * t) (pkN M (15 + 8 * t)) 0 = pkN M (15 + 8 * t) then -1 else (pcN M (15 + 8 * t) (pkN M (15 + 8 * t)) 0 : Int)
def fyM (M : Me) (t : Int) : Me := if t < 0 ∨ M 49 1 ≤ t then M else pcC M (15 + 8 * t) (min (pkN M (15 + 8 * t)) (pcN M (15 + 8 * t) (pkN M (15 + 8 * t)) 0 + 1))
theorem l_playedC {x y z : Int} {M : Me} {q t : Int} (hq : TS (Sf x y z) q) (hx : 15 ≤ q ∧ q ≤ 39) {N : Nat} (hN : M q 0 = (N : Int)) (hN24 : N ≤ 24) (hI : ∀ i : Nat, i ≤ N → CI (pcC M q i) ∧ pcC M q i q 0 = M q 0) : ∀ (m i : Nat), m + i = N → V kX10_played 0 0 9 none (Ex (some (0, if pcN M q m i = N then -1 else (pcN M q m i : Int))) (Sf x y z) (pcC M q (min N (pcN M q m i + 1)))) 27 [(1, 0), (0, t), (1, q), (0, (i : Int))] [] (Sf x y z) (pcC M q i) 0 0 := by
  have q0 := hq.1
  intro m
  induction m with
  | zero =>
    intro i hi
    have hI := (hI i (by omega)).2
    refine r_iload_n dX10_played_27 rfl ?_
    refine r_aload_n dX10_played_28 rfl (by omega) ?_
    refine r_gi 0 dX10_played_29 flX10_127 q0 (by decide) (by omega) rfl rfl (hI.trans hN) ?_
    refine r_icmp_ge (tgt := 52) dX10_played_32 (by decide) (fun h32 => ?_) (fun h32 => by exfalso; omega)
    refine r_iconst dX10_played_52 (by decide) ?_
    refine r_iret dX10_played_53 rfl ?_
    exact ⟨by show _ = some (0, if i = N then -1 else (i : Int)); rw [if_pos (by omega)], rfl, by show _ = pcC M q (min N (i + 1)); rw [show min N (i + 1) = i by omega]⟩
  | succ m ih =>
    intro i hi
    have hI := hI i (by omega)
    have hi0 := hI.2.trans hN
    by_cases hc : cdV (pcC M q i) q i = 0
    · rw [pcN_0 hc]
      refine r_iload_n dX10_played_27 rfl ?_
      refine r_aload_n dX10_played_28 rfl (by omega) ?_
      refine r_gi 0 dX10_played_29 flX10_127 q0 (by decide) (by omega) rfl rfl hi0 ?_
      refine r_icmp_ge (tgt := 52) dX10_played_32 (by decide) (fun h32 => by exfalso; omega) (fun h32 => ?_)
      refine r_aload_n dX10_played_35 rfl (by decide) ?_
      refine r_aload_n dX10_played_36 rfl (by omega) ?_
      refine r_iload_n dX10_played_37 rfl ?_
      refine r_cv2 dX10_played_38 clX10_130 sf0 (by decide) (by decide) rfl (by first | decide | omega) (Nat.le_of_ble_eq_true rfl) ((f_clauseDone hI.1 hq hx (by omega) (by omega))) ⟨Nat.zero_le _, Nat.zero_le _⟩ (fun _ => ?_)
      refine r_if_ne (tgt := 46) dX10_played_41 (by decide) (fun h41 => ?_) (fun h41 => ?_)
      · exact absurd hc (by assumption)
      · refine r_iload_n dX10_played_44 rfl ?_
        refine r_iret dX10_played_45 rfl ?_
        exact ⟨by rw [if_neg (by omega)], rfl, by rw [show min N (i + 1) = i + 1 by omega]; rfl⟩
    · rw [pcN_1 hc]
      have ih9 := ih (i + 1) (by omega)
      refine r_iload_n dX10_played_27 rfl ?_
      refine r_aload_n dX10_played_28 rfl (by omega) ?_
      refine r_gi 0 dX10_played_29 flX10_127 q0 (by decide) (by omega) rfl rfl hi0 ?_
      refine r_icmp_ge (tgt := 52) dX10_played_32 (by decide) (fun h32 => by exfalso; omega) (fun h32 => ?_)
      refine r_aload_n dX10_played_35 rfl (by decide) ?_
      refine r_aload_n dX10_played_36 rfl (by omega) ?_
      refine r_iload_n dX10_played_37 rfl ?_
      refine r_cv2 dX10_played_38 clX10_130 sf0 (by decide) (by decide) rfl (by first | decide | omega) (Nat.le_of_ble_eq_true rfl) ((f_clauseDone hI.1 hq hx (by omega) (by omega))) ⟨Nat.zero_le _, Nat.zero_le _⟩ (fun _ => ?_)
      refine r_if_ne (tgt := 46) dX10_played_41 (by decide) (fun h41 => ?_) (fun h41 => ?_)
      · refine r_iinc dX10_played_46 rfl rfl (by decide) (w32_id (by omega)) st3 ?_
        refine r_goto (tgt := 27) dX10_played_49 (by decide) ?_
        exact ih9
      · exact absurd (by assumption) hc
theorem f_played {x y z : Int} {M : Me} (h : CI M) {t : Int} (hI : 0 ≤ t ∧ t < M 49 1 → ∀ i : Nat, i ≤ pkN M (15 + 8 * t) → CI (pcC M (15 + 8 * t) i) ∧ pcC M (15 + 8 * t) i (15 + 8 * t) 0 = M (15 + 8 * t) 0) : Con kX10_played 9 0 0 [(1, 0), (0, t)] (Sf x y z) M (Ex (some (0, fyV M t)) (Sf x y z) (fyM M t)) := by
  refine Con.ofV (al := [(1, 0), (0, t), (9, 0), (9, 0)]) 2 (by decide) (Nat.le_of_ble_eq_true rfl) rfl ?_
  have ht := h.t
  refine r_iload_n dX10_played_0 rfl ?_
  refine r_if_lt (tgt := 15) dX10_played_1 (by decide) (fun h1 => ?_) (fun h1 => ?_)
  · refine r_bipush dX10_played_15 (by decide) (by decide) ?_
    refine r_iret dX10_played_17 rfl ?_
    exact ⟨by unfold fyV; rw [if_pos (by omega)], rfl, by unfold fyM; rw [if_pos (by omega)]⟩
  · refine r_iload_n dX10_played_4 rfl ?_
    refine r_aload_n dX10_played_5 rfl (by decide) ?_
    refine r_getr (x := 49) dX10_played_6 flX10_52 sf0 (by decide) (by decide) rfl rfl ?_
    refine r_gi 1 dX10_played_9 flX10_86 sf49 (by decide) (by decide) rfl rfl rfl ?_
    refine r_icmp_lt (tgt := 18) dX10_played_12 (by decide) (fun h12 => ?_) (fun h12 => ?_)
    · refine r_aload_n dX10_played_18 rfl (by decide) ?_
      refine r_getr (x := 1) dX10_played_19 flX10_11 sf0 (by decide) (by decide) rfl rfl ?_
      refine r_iload_n dX10_played_22 rfl ?_
      refine r_aald dX10_played_23 sf1 (by decide) (by decide) (by decide) (by omega) (by omega) (by decide) (tq_r (by omega)) ?_
      refine r_astore_n dX10_played_24 (by omega) rfl (by decide) st2 ?_
      refine r_iconst dX10_played_25 (by decide) ?_
      refine r_istore_n dX10_played_26 rfl (by decide) st3 ?_
      have hv : fyV M t = _ := if_neg (by omega)
      have hm : fyM M t = _ := if_neg (by omega)
      rw [hv, hm]
      have ht2 := h.2.2.2 t (by omega) (by omega)
      have hz : M (15 + 8 * t) 0 = ((pkN M (15 + 8 * t) : Nat) : Int) := (Int.toNat_of_nonneg ht2.2.1).symm
      exact l_playedC (ts_q (by omega)) (by omega) hz (by omega) (hI (by omega)) _ 0 rfl
    · refine r_bipush dX10_played_15 (by decide) (by decide) ?_
      refine r_iret dX10_played_17 rfl ?_
      exact ⟨by unfold fyV; rw [if_pos (by omega)], rfl, by unfold fyM; rw [if_pos (by omega)]⟩
