/-- what the class keeps to -/
def CI (M : Me) : Prop := ((0 ≤ M 50 0 ∧ M 50 0 ≤ 9999) ∧ (0 ≤ M 50 1 ∧ M 50 1 < 40000) ∧ (0 ≤ M 50 2 ∧ M 50 2 ≤ 5) ∧ (0 ≤ M 50 3 ∧ M 50 3 ≤ 12) ∧ (0 ≤ M 50 4 ∧ M 50 4 ≤ 30) ∧ (0 ≤ M 49 0 ∧ M 49 0 ≤ 9) ∧ (0 ≤ M 49 1 ∧ M 49 1 ≤ 4) ∧ (0 ≤ M 55 0 ∧ M 55 0 ≤ 30) ∧ (0 ≤ M 55 1 ∧ M 55 1 < 30)) ∧
  (∀ c : Int, 0 ≤ c → c < M 50 3 → (0 ≤ M 209 c ∧ M 209 c < M 50 2) ∧ (0 ≤ M 214 c ∧ M 214 c < 4096) ∧ (0 ≤ M 53 c ∧ M 53 c ≤ 9) ∧ (0 ≤ M 52 c ∧ M 52 c ≤ 2) ∧ (0 ≤ M 210 c ∧ M 210 c ≤ 99) ∧ (0 ≤ M 211 c ∧ M 211 c ≤ 9) ∧ (-9 ≤ M 212 c ∧ M 212 c ≤ 9) ∧ (0 ≤ M 213 c ∧ M 213 c < 4096)) ∧
  (∀ p : Int, 0 ≤ p → p < M 50 2 → (0 ≤ M 51 p ∧ M 51 p ≤ 9999) ∧ (0 ≤ M 207 p ∧ M 207 p ≤ 2) ∧ (0 ≤ M 208 p ∧ M 208 p ≤ 9999)) ∧
  (∀ t : Int, 0 ≤ t → t < 4 → (0 ≤ M (15 + 8 * t) 1 ∧ M (15 + 8 * t) 1 ≤ 300) ∧ (0 ≤ M (15 + 8 * t) 0 ∧ M (15 + 8 * t) 0 ≤ 24))
theorem CI.h {M : Me} (h : CI M) : 0 ≤ M 50 0 ∧ M 50 0 ≤ 9999 := h.1.1
theorem CI.x {M : Me} (h : CI M) : 0 ≤ M 50 1 ∧ M 50 1 < 40000 := h.1.2.1
theorem CI.p {M : Me} (h : CI M) : 0 ≤ M 50 2 ∧ M 50 2 ≤ 5 := h.1.2.2.1
theorem CI.c {M : Me} (h : CI M) : 0 ≤ M 50 3 ∧ M 50 3 ≤ 12 := h.1.2.2.2.1
theorem CI.b {M : Me} (h : CI M) : 0 ≤ M 50 4 ∧ M 50 4 ≤ 30 := h.1.2.2.2.2.1
theorem CI.e {M : Me} (h : CI M) : 0 ≤ M 49 0 ∧ M 49 0 ≤ 9 := h.1.2.2.2.2.2.1
theorem CI.t {M : Me} (h : CI M) : 0 ≤ M 49 1 ∧ M 49 1 ≤ 4 := h.1.2.2.2.2.2.2.1
theorem CI.s {M : Me} (h : CI M) : 0 ≤ M 55 0 ∧ M 55 0 ≤ 30 := h.1.2.2.2.2.2.2.2.1
theorem CI.f {M : Me} (h : CI M) : 0 ≤ M 55 1 ∧ M 55 1 < 30 := h.1.2.2.2.2.2.2.2.2
/-- what is asked of the law l in the text that lies at q -/
def askS (M : Me) (q l c : Int) : AS := akF M q c 300 ((fun j => M 48 j), 0, if 0 ≤ l ∧ l < 3 then M (q + 1) l else -1)
def askV (M : Me) (q l c : Int) : Int := lsV (askS M q l c).1 (askS M q l c).2.1
def askM (M : Me) (q l c : Int) : Me := akM M (askS M q l c).1 (lsN (askS M q l c).2.1)
theorem askM_o {M : Me} {q l c a j : Int} (h : ¬ (a = 48 ∧ 0 ≤ j ∧ j < 64) ∧ ¬ (a = 47 ∧ j = 1)) : askM M q l c a j = M a j := akM_o h
theorem ak_0 {M : Me} : up M 47 1 0 = akM M (fun j => M 48 j) 0 := by
  refine (congrArg (fun N => up N 47 1 0) (akM_id (M := M))).trans akM_un
theorem c_ask {x y z : Int} {M : Me} {q l c : Int} (hq : TS (Sf x y z) q) (hl : 0 ≤ M q 1 ∧ M q 1 ≤ 300) (h : CI M) (hc : 0 ≤ c ∧ c < M 50 3) : Con kX0_ask 3 0 0 [(1, 47), (1, q), (0, l), (1, 49), (0, c)] (Sf x y z) M (Ex (some (0, askV M q l c)) (Sf x y z) (askM M q l c)) := by
  refine Con.ofV (al := [(1, 47), (1, q), (0, l), (1, 49), (0, c), (9, 0), (9, 0), (9, 0), (9, 0), (9, 0)]) 5 (by decide) (Nat.le_of_ble_eq_true rfl) rfl ?_
  obtain ⟨q0, q1, q2, q3, -, -, -, -, qp⟩ := id hq
  refine r_aload_n dX0_ask_0 rfl (by decide) ?_
  refine r_iconst dX0_ask_1 (by decide) ?_
  refine r_pi 1 dX0_ask_2 fpX0_15 sf47 (by decide) (by decide) rfl rfl ?_
  refine V.cm rfl ak_0 ?_
  refine r_iload_n dX0_ask_5 rfl ?_
  refine r_if_lt (tgt := 23) dX0_ask_6 (by decide) (fun h6 => ?_) (fun h6 => ?_)
  · refine r_iconst dX0_ask_23 (by decide) ?_
    refine r_istore dX0_ask_24 rfl (by decide) st5 ?_
    first | rw [show M (q + 1) l = (if 0 ≤ l ∧ l < 3 then M (q + 1) l else -1) from (if_pos (by omega)).symm] | rw [show (-1 : Int) = (if 0 ≤ l ∧ l < 3 then M (q + 1) l else -1) from (if_neg (by omega)).symm]
    refine r_iconst dX0_ask_26 (by decide) ?_
    refine r_istore dX0_ask_27 rfl (by decide) st6 ?_
    exact l_ask hq hl (by have := h.c; omega) (by have := (h.2.1 c hc.1 hc.2).1; have := h.p; omega) (h.2.1 c hc.1 hc.2).2.1 h.c 300 0 rfl _ _ _ (by decide)
  · refine r_iload_n dX0_ask_9 rfl ?_
    refine r_iconst dX0_ask_10 (by decide) ?_
    refine r_icmp_ge (tgt := 23) dX0_ask_11 (by decide) (fun h11 => ?_) (fun h11 => ?_)
    · refine r_iconst dX0_ask_23 (by decide) ?_
      refine r_istore dX0_ask_24 rfl (by decide) st5 ?_
      first | rw [show M (q + 1) l = (if 0 ≤ l ∧ l < 3 then M (q + 1) l else -1) from (if_pos (by omega)).symm] | rw [show (-1 : Int) = (if 0 ≤ l ∧ l < 3 then M (q + 1) l else -1) from (if_neg (by omega)).symm]
      refine r_iconst dX0_ask_26 (by decide) ?_
      refine r_istore dX0_ask_27 rfl (by decide) st6 ?_
      exact l_ask hq hl (by have := h.c; omega) (by have := (h.2.1 c hc.1 hc.2).1; have := h.p; omega) (h.2.1 c hc.1 hc.2).2.1 h.c 300 0 rfl _ _ _ (by decide)
    · refine r_aload_n dX0_ask_14 rfl (by omega) ?_
      refine r_getr (x := q + 1) dX0_ask_15 flX0_19 q0 (by decide) (by omega) rfl rfl ?_
      refine r_iload_n dX0_ask_18 rfl ?_
      refine r_iald dX0_ask_19 q1 (by omega) (by omega) (by omega) (by decide) (akM_o (by omega)) ?_
      refine r_goto (tgt := 24) dX0_ask_20 (by decide) ?_
      refine r_istore dX0_ask_24 rfl (by decide) st5 ?_
      first | rw [show M (q + 1) l = (if 0 ≤ l ∧ l < 3 then M (q + 1) l else -1) from (if_pos (by omega)).symm] | rw [show (-1 : Int) = (if 0 ≤ l ∧ l < 3 then M (q + 1) l else -1) from (if_neg (by omega)).symm]
      refine r_iconst dX0_ask_26 (by decide) ?_
      refine r_istore dX0_ask_27 rfl (by decide) st6 ?_
      exact l_ask hq hl (by have := h.c; omega) (by have := (h.2.1 c hc.1 hc.2).1; have := h.p; omega) (h.2.1 c hc.1 hc.2).2.1 h.c 300 0 rfl _ _ _ (by decide)
def wlC (M : Me) (l c : Int) : Int := if l = 0 then (if M 207 (M 209 c) = 2 then 1 else M 49 0 / 2) else if l = 1 then max 0 (M 49 0 - 6) else M 53 c
theorem c_withoutLaw {x y z : Int} {M : Me} {l c : Int} (h : CI M) (hc : 0 ≤ c ∧ c < M 50 3) : Con kX6_withoutLaw 1 0 0 [(1, 49), (0, l), (0, c)] (Sf x y z) M (Ex (some (0, wlC M l c)) (Sf x y z) M) := by
  refine Con.ofV (al := [(1, 49), (0, l), (0, c)]) 0 (by decide) (Nat.le_of_ble_eq_true rfl) rfl ?_
  have he := h.e
  have h3 := h.c
  have h9 := (h.2.1 c hc.1 hc.2).1
  have hp := h.p
  refine r_iload_n dX6_withoutLaw_0 rfl ?_
  refine r_if_ne (tgt := 30) dX6_withoutLaw_1 (by decide) (fun h1 => ?_) (fun h1 => ?_)
  · try have h1 := bi_1.mp h1
    refine r_iload_n dX6_withoutLaw_30 rfl ?_
    refine r_iconst dX6_withoutLaw_31 (by decide) ?_
    refine r_icmp_ne (tgt := 49) dX6_withoutLaw_32 (by decide) (fun h32 => ?_) (fun h32 => ?_)
    · refine r_aload_n dX6_withoutLaw_49 rfl (by decide) ?_
      refine r_getr (x := 50) dX6_withoutLaw_50 flX6_21 sf49 (by decide) (by decide) rfl rfl ?_
      refine r_getr (x := 53) dX6_withoutLaw_53 flX6_130 sf50 (by decide) (by decide) rfl rfl ?_
      refine r_iload_n dX6_withoutLaw_56 rfl ?_
      refine r_iald dX6_withoutLaw_57 sf53 (by decide) (by omega) (by omega) (by decide) rfl ?_
      refine r_iret dX6_withoutLaw_58 rfl ?_
      first | exact ⟨by unfold wlC; rw [if_pos (by omega), if_pos (by omega)], rfl, rfl⟩ | exact ⟨by unfold wlC; rw [if_pos (by omega), if_neg (by omega)], rfl, rfl⟩ | exact ⟨by unfold wlC; rw [if_neg (by omega), if_pos (by omega)], rfl, rfl⟩ | exact ⟨by unfold wlC; rw [if_neg (by omega), if_neg (by omega)], rfl, rfl⟩
    · refine r_iconst dX6_withoutLaw_35 (by decide) ?_
      refine r_aload_n dX6_withoutLaw_36 rfl (by decide) ?_
      refine r_gi 0 dX6_withoutLaw_37 flX6_9 sf49 (by decide) (by decide) rfl rfl rfl ?_
      refine r_bipush dX6_withoutLaw_40 (by decide) (by decide) ?_
      refine r_isub dX6_withoutLaw_42 (w32_id (by omega)) ?_
      refine r_mmax dX6_withoutLaw_43 clmX6_146 ma_max1 ii_Math ma_max2 (by decide) (Nat.le_of_ble_eq_true rfl) rfl ?_
      refine r_goto (tgt := 58) dX6_withoutLaw_46 (by decide) ?_
      refine r_iret dX6_withoutLaw_58 rfl ?_
      first | exact ⟨by unfold wlC; rw [if_pos (by omega), if_pos (by omega)], rfl, rfl⟩ | exact ⟨by unfold wlC; rw [if_pos (by omega), if_neg (by omega)], rfl, rfl⟩ | exact ⟨by unfold wlC; rw [if_neg (by omega), if_pos (by omega)], rfl, rfl⟩ | exact ⟨by unfold wlC; rw [if_neg (by omega), if_neg (by omega)], rfl, rfl⟩
  · try have h1 := bi_0.mp h1
    refine r_aload_n dX6_withoutLaw_4 rfl (by decide) ?_
    refine r_getr (x := 207) dX6_withoutLaw_5 flX6_32 sf49 (by decide) (by decide) rfl rfl ?_
    refine r_aload_n dX6_withoutLaw_8 rfl (by decide) ?_
    refine r_getr (x := 209) dX6_withoutLaw_9 flX6_39 sf49 (by decide) (by decide) rfl rfl ?_
    refine r_iload_n dX6_withoutLaw_12 rfl ?_
    refine r_iald dX6_withoutLaw_13 sf209 (by decide) (by omega) (by omega) (by decide) rfl ?_
    refine r_iald dX6_withoutLaw_14 sf207 (by decide) (by omega) (by omega) (by decide) rfl ?_
    refine r_iconst dX6_withoutLaw_15 (by decide) ?_
    refine r_icmp_ne (tgt := 23) dX6_withoutLaw_16 (by decide) (fun h16 => ?_) (fun h16 => ?_)
    · refine r_aload_n dX6_withoutLaw_23 rfl (by decide) ?_
      refine r_gi 0 dX6_withoutLaw_24 flX6_9 sf49 (by decide) (by decide) rfl rfl rfl ?_
      refine r_iconst dX6_withoutLaw_27 (by decide) ?_
      refine r_idiv dX6_withoutLaw_28 (by omega) (dvn (by omega) (by omega) (by omega)) ?_
      refine r_iret dX6_withoutLaw_29 rfl ?_
      first | exact ⟨by unfold wlC; rw [if_pos (by omega), if_pos (by omega)], rfl, rfl⟩ | exact ⟨by unfold wlC; rw [if_pos (by omega), if_neg (by omega)], rfl, rfl⟩ | exact ⟨by unfold wlC; rw [if_neg (by omega), if_pos (by omega)], rfl, rfl⟩ | exact ⟨by unfold wlC; rw [if_neg (by omega), if_neg (by omega)], rfl, rfl⟩
    · refine r_iconst dX6_withoutLaw_19 (by decide) ?_
      refine r_goto (tgt := 29) dX6_withoutLaw_20 (by decide) ?_
      refine r_iret dX6_withoutLaw_29 rfl ?_
      first | exact ⟨by unfold wlC; rw [if_pos (by omega), if_pos (by omega)], rfl, rfl⟩ | exact ⟨by unfold wlC; rw [if_pos (by omega), if_neg (by omega)], rfl, rfl⟩ | exact ⟨by unfold wlC; rw [if_neg (by omega), if_pos (by omega)], rfl, rfl⟩ | exact ⟨by unfold wlC; rw [if_neg (by omega), if_neg (by omega)], rfl, rfl⟩
/-- whether the text t says nothing of the law l -/
abbrev blN (M : Me) (l t : Int) : Prop := t < 0 ∨ M 49 1 ≤ t ∨ M (15 + 8 * t + 1) l = -1
def mostC (l : Int) : Int := if l = 0 then 9 else if l = 1 then 10 else 9999
def blC (M : Me) (l c t : Int) : Int := if blN M l t then wlC M l c else max 0 (min (mostC l) (askV M (15 + 8 * t) l c))
def blM (M : Me) (l c t : Int) : Me := if blN M l t then M else askM M (15 + 8 * t) l c
theorem blM_o {M : Me} {l c t a j : Int} (h : ¬ (a = 48 ∧ 0 ≤ j ∧ j < 64) ∧ ¬ (a = 47 ∧ j = 1)) : blM M l c t a j = M a j := by
  unfold blM
  split
  · rfl
  · exact askM_o h
theorem c_byLaw {x y z : Int} {M : Me} {l c t : Int} (h : CI M) (hc : 0 ≤ c ∧ c < M 50 3) (hl : 0 ≤ l ∧ l < 3) : Con kX6_byLaw 4 0 0 [(1, 49), (0, l), (0, c), (0, t)] (Sf x y z) M (Ex (some (0, blC M l c t)) (Sf x y z) (blM M l c t)) := by
  refine Con.ofV (al := [(1, 49), (0, l), (0, c), (0, t), (9, 0), (9, 0)]) 2 (by decide) (Nat.le_of_ble_eq_true rfl) rfl ?_
  have h1 := h.t
  refine r_iload_n dX6_byLaw_0 rfl ?_
  refine r_if_lt (tgt := 27) dX6_byLaw_1 (by decide) (fun h1 => ?_) (fun h1 => ?_)
  · refine r_aload_n dX6_byLaw_27 rfl (by decide) ?_
    refine r_iload_n dX6_byLaw_28 rfl ?_
    refine r_iload_n dX6_byLaw_29 rfl ?_
    refine r_cv2 dX6_byLaw_30 clX6_203 sf49 (by decide) (by decide) rfl (by first | decide | omega) (Nat.le_of_ble_eq_true rfl) ((c_withoutLaw h hc)) ⟨Nat.zero_le _, Nat.zero_le _⟩ (fun _ => ?_)
    refine r_iret dX6_byLaw_33 rfl ?_
    exact ⟨by unfold blC; rw [if_pos (by omega)], rfl, by unfold blM; rw [if_pos (by omega)]⟩
  · refine r_iload_n dX6_byLaw_4 rfl ?_
    refine r_aload_n dX6_byLaw_5 rfl (by decide) ?_
    refine r_gi 1 dX6_byLaw_6 flX6_89 sf49 (by decide) (by decide) rfl rfl (by first | assumption | ((repeat (first | (apply rd_ne; · omega) | (apply rd_eq; · omega) | (apply rd_out; · omega) | (apply rd_in; · omega))); first | assumption | rfl)) ?_
    refine r_icmp_ge (tgt := 27) dX6_byLaw_9 (by decide) (fun h9 => ?_) (fun h9 => ?_)
    · refine r_aload_n dX6_byLaw_27 rfl (by decide) ?_
      refine r_iload_n dX6_byLaw_28 rfl ?_
      refine r_iload_n dX6_byLaw_29 rfl ?_
      refine r_cv2 dX6_byLaw_30 clX6_203 sf49 (by decide) (by decide) rfl (by first | decide | omega) (Nat.le_of_ble_eq_true rfl) ((c_withoutLaw h hc)) ⟨Nat.zero_le _, Nat.zero_le _⟩ (fun _ => ?_)
      refine r_iret dX6_byLaw_33 rfl ?_
      exact ⟨by unfold blC; rw [if_pos (by omega)], rfl, by unfold blM; rw [if_pos (by omega)]⟩
    · have ht : 0 ≤ t ∧ t < 4 := by omega
      refine r_aload_n dX6_byLaw_12 rfl (by decide) ?_
      refine r_getr (x := 1) dX6_byLaw_13 flX6_81 sf49 (by decide) (by decide) rfl rfl ?_
      refine r_iload_n dX6_byLaw_16 rfl ?_
      refine r_aald dX6_byLaw_17 sf1 (by decide) (by decide) (by decide) (by omega) (by omega) (by decide) (tq_r ht) ?_
      refine r_getr (x := (15 + 8 * t) + 1) dX6_byLaw_18 flX6_198 (ts_q ht).1 (by decide) (by omega) rfl rfl ?_
      refine r_iload_n dX6_byLaw_21 rfl ?_
      refine r_iald dX6_byLaw_22 (ts_q ht).2.1 (by omega) (by omega) (by omega) (by decide) rfl ?_
      refine r_iconst dX6_byLaw_23 (by decide) ?_
      refine r_icmp_ne (tgt := 34) dX6_byLaw_24 (by decide) (fun h24 => ?_) (fun h24 => ?_)
      · refine r_aload_n dX6_byLaw_34 rfl (by decide) ?_
        refine r_getr (x := 47) dX6_byLaw_35 flX6_85 sf49 (by decide) (by decide) rfl rfl ?_
        refine r_aload_n dX6_byLaw_38 rfl (by decide) ?_
        refine r_getr (x := 1) dX6_byLaw_39 flX6_81 sf49 (by decide) (by decide) rfl rfl ?_
        refine r_iload_n dX6_byLaw_42 rfl ?_
        refine r_aald dX6_byLaw_43 sf1 (by decide) (by decide) (by decide) (by omega) (by omega) (by decide) (tq_r ht) ?_
        refine r_iload_n dX6_byLaw_44 rfl ?_
        refine r_aload_n dX6_byLaw_45 rfl (by decide) ?_
        refine r_iload_n dX6_byLaw_46 rfl ?_
        refine r_cv4 dX6_byLaw_47 clX6_206 sf47 (by decide) (by decide) rfl (by first | decide | omega) (Nat.le_of_ble_eq_true rfl) ((c_ask (ts_q ht) (h.2.2.2 t ht.1 ht.2).1 h hc)) ⟨Nat.zero_le _, Nat.zero_le _⟩ (fun _ => ?_)
        refine r_istore dX6_byLaw_50 rfl (by decide) st4 ?_
        refine r_iload_n dX6_byLaw_52 rfl ?_
        refine r_if_ne (tgt := 61) dX6_byLaw_53 (by decide) (fun h53 => ?_) (fun h53 => ?_)
        · try have h53 := bi_1.mp h53
          refine r_iload_n dX6_byLaw_61 rfl ?_
          refine r_iconst dX6_byLaw_62 (by decide) ?_
          refine r_icmp_ne (tgt := 71) dX6_byLaw_63 (by decide) (fun h63 => ?_) (fun h63 => ?_)
          · refine r_sipush dX6_byLaw_71 (by decide) (by decide) ?_
            refine r_istore dX6_byLaw_74 rfl (by decide) st5 ?_
            refine r_iconst dX6_byLaw_76 (by decide) ?_
            refine r_iload dX6_byLaw_77 rfl ?_
            refine r_iload dX6_byLaw_79 rfl ?_
            refine r_mmin dX6_byLaw_81 clmX6_212 ma_min1 ii_Math ma_min2 (by decide) (Nat.le_of_ble_eq_true rfl) rfl ?_
            refine r_mmax dX6_byLaw_84 clmX6_146 ma_max1 ii_Math ma_max2 (by decide) (Nat.le_of_ble_eq_true rfl) rfl ?_
            refine r_iret dX6_byLaw_87 rfl ?_
            first | exact ⟨by unfold blC mostC; rw [if_neg (by omega), if_pos (by omega)], rfl, by unfold blM; rw [if_neg (by omega)]⟩ | exact ⟨by unfold blC mostC; rw [if_neg (by omega), if_neg (by omega), if_pos (by omega)], rfl, by unfold blM; rw [if_neg (by omega)]⟩ | exact ⟨by unfold blC mostC; rw [if_neg (by omega), if_neg (by omega), if_neg (by omega)], rfl, by unfold blM; rw [if_neg (by omega)]⟩
          · refine r_bipush dX6_byLaw_66 (by decide) (by decide) ?_
            refine r_goto (tgt := 74) dX6_byLaw_68 (by decide) ?_
            refine r_istore dX6_byLaw_74 rfl (by decide) st5 ?_
            refine r_iconst dX6_byLaw_76 (by decide) ?_
            refine r_iload dX6_byLaw_77 rfl ?_
            refine r_iload dX6_byLaw_79 rfl ?_
            refine r_mmin dX6_byLaw_81 clmX6_212 ma_min1 ii_Math ma_min2 (by decide) (Nat.le_of_ble_eq_true rfl) rfl ?_
            refine r_mmax dX6_byLaw_84 clmX6_146 ma_max1 ii_Math ma_max2 (by decide) (Nat.le_of_ble_eq_true rfl) rfl ?_
            refine r_iret dX6_byLaw_87 rfl ?_
            first | exact ⟨by unfold blC mostC; rw [if_neg (by omega), if_pos (by omega)], rfl, by unfold blM; rw [if_neg (by omega)]⟩ | exact ⟨by unfold blC mostC; rw [if_neg (by omega), if_neg (by omega), if_pos (by omega)], rfl, by unfold blM; rw [if_neg (by omega)]⟩ | exact ⟨by unfold blC mostC; rw [if_neg (by omega), if_neg (by omega), if_neg (by omega)], rfl, by unfold blM; rw [if_neg (by omega)]⟩
        · try have h53 := bi_0.mp h53
          refine r_bipush dX6_byLaw_56 (by decide) (by decide) ?_
          refine r_goto (tgt := 74) dX6_byLaw_58 (by decide) ?_
          refine r_istore dX6_byLaw_74 rfl (by decide) st5 ?_
          refine r_iconst dX6_byLaw_76 (by decide) ?_
          refine r_iload dX6_byLaw_77 rfl ?_
          refine r_iload dX6_byLaw_79 rfl ?_
          refine r_mmin dX6_byLaw_81 clmX6_212 ma_min1 ii_Math ma_min2 (by decide) (Nat.le_of_ble_eq_true rfl) rfl ?_
          refine r_mmax dX6_byLaw_84 clmX6_146 ma_max1 ii_Math ma_max2 (by decide) (Nat.le_of_ble_eq_true rfl) rfl ?_
          refine r_iret dX6_byLaw_87 rfl ?_
          first | exact ⟨by unfold blC mostC; rw [if_neg (by omega), if_pos (by omega)], rfl, by unfold blM; rw [if_neg (by omega)]⟩ | exact ⟨by unfold blC mostC; rw [if_neg (by omega), if_neg (by omega), if_pos (by omega)], rfl, by unfold blM; rw [if_neg (by omega)]⟩ | exact ⟨by unfold blC mostC; rw [if_neg (by omega), if_neg (by omega), if_neg (by omega)], rfl, by unfold blM; rw [if_neg (by omega)]⟩
      · refine r_aload_n dX6_byLaw_27 rfl (by decide) ?_
        refine r_iload_n dX6_byLaw_28 rfl ?_
        refine r_iload_n dX6_byLaw_29 rfl ?_
        refine r_cv2 dX6_byLaw_30 clX6_203 sf49 (by decide) (by decide) rfl (by first | decide | omega) (Nat.le_of_ble_eq_true rfl) ((c_withoutLaw h hc)) ⟨Nat.zero_le _, Nat.zero_le _⟩ (fun _ => ?_)
        refine r_iret dX6_byLaw_33 rfl ?_
        exact ⟨by unfold blC; rw [if_pos (by omega)], rfl, by unfold blM; rw [if_pos (by omega)]⟩
/-- whether so many prices are those of the text t -/
def ipC (M : Me) (t : Int) : Nat → Int × Me
  | 0 => (1, M)
  | k + 1 => if (ipC M t k).1 = 0 then (0, (ipC M t k).2) else (if blC (ipC M t k).2 2 (M 236 (k : Int)) t = M 237 (k : Int) then 1 else 0, blM (ipC M t k).2 2 (M 236 (k : Int)) t)
theorem ipC_o {M : Me} {t : Int} : ∀ (k : Nat) {a j : Int}, ¬ (a = 48 ∧ 0 ≤ j ∧ j < 64) ∧ ¬ (a = 47 ∧ j = 1) → (ipC M t k).2 a j = M a j := by
  intro k
  induction k with
  | zero => intro a j _; rfl
  | succ k ih =>
    intro a j h
    unfold ipC
    split
    · exact ih h
    · exact (blM_o h).trans (ih h)
theorem CI.of {M N : Me} (h : CI M) (e : ∀ a j : Int, ¬ (a = 48 ∧ 0 ≤ j ∧ j < 64) ∧ ¬ (a = 47 ∧ j = 1) → N a j = M a j) : CI N := by
  unfold CI
  rw [e 50 0 (by omega), e 50 1 (by omega), e 50 2 (by omega), e 50 3 (by omega), e 50 4 (by omega), e 49 0 (by omega), e 49 1 (by omega), e 55 0 (by omega), e 55 1 (by omega)]
  refine ⟨h.1, fun c h0 h1 => ?_, fun p h0 h1 => ?_, fun t h0 h1 => ?_⟩
  · rw [e 209 c (by omega), e 214 c (by omega), e 53 c (by omega), e 52 c (by omega), e 210 c (by omega), e 211 c (by omega), e 212 c (by omega), e 213 c (by omega)]
    exact h.2.1 c h0 h1
  · rw [e 51 p (by omega), e 207 p (by omega), e 208 p (by omega)]
    exact h.2.2.1 p h0 h1
  · rw [e (15 + 8 * t) 1 (by omega), e (15 + 8 * t) 0 (by omega)]
    exact h.2.2.2 t h0 h1
theorem ipC_0 {M : Me} {t : Int} {k : Nat} (h : (ipC M t k).1 = 0) : ∀ m : Nat, ipC M t (k + m) = (0, (ipC M t k).2) := by
  intro m
  induction m with
  | zero => rw [← h]; rfl
  | succ m ih =>
    have e : ipC M t (k + (m + 1)) = (0, (ipC M t (k + m)).2) := if_pos (show (ipC M t (k + m)).1 = 0 by rw [ih])
    rw [e, ih]
theorem ipC_1 {M : Me} {t : Int} {k : Nat} (h : (ipC M t k).1 = 1) (e : blC (ipC M t k).2 2 (M 236 (k : Int)) t = M 237 (k : Int)) : ipC M t (k + 1) = (1, blM (ipC M t k).2 2 (M 236 (k : Int)) t) := (if_neg (by rw [h]; decide)).trans (by rw [if_pos e])
theorem ipC_2 {M : Me} {t : Int} {k : Nat} (h : (ipC M t k).1 = 1) (e : blC (ipC M t k).2 2 (M 236 (k : Int)) t ≠ M 237 (k : Int)) : ipC M t (k + 1) = (0, blM (ipC M t k).2 2 (M 236 (k : Int)) t) := (if_neg (by rw [h]; decide)).trans (by rw [if_neg e])
theorem l_isPaidBy {x y z : Int} {M : Me} {t : Int} (h : CI M) {n : Nat} (hn : M 235 0 = (n : Int)) (hn8 : n ≤ 8) (hd : ∀ k : Nat, k < n → 0 ≤ M 236 (k : Int) ∧ M 236 (k : Int) < M 50 3) : ∀ (m i : Nat), m + i = n → (ipC M t i).1 = 1 → V kX6_isPaidBy 0 0 5 none (Ex (some (0, (ipC M t n).1)) (Sf x y z) (ipC M t n).2) 2 [(1, 49), (0, t), (0, (i : Int))] [] (Sf x y z) (ipC M t i).2 0 0 := by
  intro m
  induction m with
  | zero =>
    intro i hi h1
    obtain rfl : i = n := by omega
    refine r_iload_n dX6_isPaidBy_2 rfl ?_
    refine r_aload_n dX6_isPaidBy_3 rfl (by decide) ?_
    refine r_getr (x := 235) dX6_isPaidBy_4 flX6_78 sf49 (by decide) (by decide) rfl rfl ?_
    refine r_gi 0 dX6_isPaidBy_7 flX6_215 sf235 (by decide) (by decide) rfl rfl ((ipC_o i (by omega)).trans hn) ?_
    refine r_icmp_ge (tgt := 48) dX6_isPaidBy_10 (by decide) (fun h10 => ?_) (fun h10 => by exfalso; omega)
    refine r_iconst dX6_isPaidBy_48 (by decide) ?_
    refine r_zret dX6_isPaidBy_49 rfl (by omega) ?_
    exact ⟨by rw [h1], rfl, rfl⟩
  | succ m ih =>
    intro i hi h1
    have hI : CI (ipC M t i).2 := h.of (fun a j q => ipC_o i q)
    have hc := hd i (by omega)
    have hc2 : 0 ≤ M 236 (i : Int) ∧ M 236 (i : Int) < (ipC M t i).2 50 3 := by rw [ipC_o i (by omega)]; exact hc
    refine r_iload_n dX6_isPaidBy_2 rfl ?_
    refine r_aload_n dX6_isPaidBy_3 rfl (by decide) ?_
    refine r_getr (x := 235) dX6_isPaidBy_4 flX6_78 sf49 (by decide) (by decide) rfl rfl ?_
    refine r_gi 0 dX6_isPaidBy_7 flX6_215 sf235 (by decide) (by decide) rfl rfl ((ipC_o i (by omega)).trans hn) ?_
    refine r_icmp_ge (tgt := 48) dX6_isPaidBy_10 (by decide) (fun h10 => by exfalso; omega) (fun h10 => ?_)
    refine r_aload_n dX6_isPaidBy_13 rfl (by decide) ?_
    refine r_iconst dX6_isPaidBy_14 (by decide) ?_
    refine r_aload_n dX6_isPaidBy_15 rfl (by decide) ?_
    refine r_getr (x := 235) dX6_isPaidBy_16 flX6_78 sf49 (by decide) (by decide) rfl rfl ?_
    refine r_getr (x := 236) dX6_isPaidBy_19 flX6_216 sf235 (by decide) (by decide) rfl rfl ?_
    refine r_iload_n dX6_isPaidBy_22 rfl ?_
    refine r_iald dX6_isPaidBy_23 sf236 (by decide) (by omega) (by omega) (by decide) (ipC_o i (by omega)) ?_
    refine r_iload_n dX6_isPaidBy_24 rfl ?_
    refine r_cv3 dX6_isPaidBy_25 clX6_142 sf49 (by decide) (by decide) rfl (by first | decide | omega) (Nat.le_of_ble_eq_true rfl) ((c_byLaw hI hc2 (by decide))) ⟨Nat.zero_le _, Nat.zero_le _⟩ (fun _ => ?_)
    refine r_aload_n dX6_isPaidBy_28 rfl (by decide) ?_
    refine r_getr (x := 235) dX6_isPaidBy_29 flX6_78 sf49 (by decide) (by decide) rfl rfl ?_
    refine r_getr (x := 237) dX6_isPaidBy_32 flX6_219 sf235 (by decide) (by decide) rfl rfl ?_
    refine r_iload_n dX6_isPaidBy_35 rfl ?_
    refine r_iald dX6_isPaidBy_36 sf237 (by decide) (by omega) (by omega) (by decide) ((blM_o (by omega)).trans (ipC_o i (by omega))) ?_
    refine r_icmp_eq (tgt := 42) dX6_isPaidBy_37 (by decide) (fun h37 => ?_) (fun h37 => ?_)
    · refine r_iinc dX6_isPaidBy_42 rfl rfl (by decide) (w32_id (by omega)) st2 ?_
      refine r_goto (tgt := 2) dX6_isPaidBy_45 (by decide) ?_
      have e9 := ipC_1 h1 (by assumption)
      have ih9 := ih (i + 1) (by omega) (by rw [e9])
      rw [show (ipC M t (i + 1)).2 = _ from congrArg Prod.snd e9] at ih9
      exact ih9
    · refine r_iconst dX6_isPaidBy_40 (by decide) ?_
      refine r_zret dX6_isPaidBy_41 rfl (by omega) ?_
      have e9 := ipC_2 h1 (by assumption)
      have e8 := ipC_0 (M := M) (t := t) (k := i + 1) (by rw [e9]) m
      rw [show i + 1 + m = n by omega] at e8
      rw [e8, e9]
      exact ⟨rfl, rfl, rfl⟩
theorem c_isPaidBy {x y z : Int} {M : Me} {t : Int} (h : CI M) {n : Nat} (hn : M 235 0 = (n : Int)) (hn8 : n ≤ 8) (hd : ∀ k : Nat, k < n → 0 ≤ M 236 (k : Int) ∧ M 236 (k : Int) < M 50 3) : Con kX6_isPaidBy 5 0 0 [(1, 49), (0, t)] (Sf x y z) M (Ex (some (0, (ipC M t n).1)) (Sf x y z) (ipC M t n).2) := by
  refine Con.ofV (al := [(1, 49), (0, t), (9, 0)]) 1 (by decide) (Nat.le_of_ble_eq_true rfl) rfl ?_
  refine r_iconst dX6_isPaidBy_0 (by decide) ?_
  refine r_istore_n dX6_isPaidBy_1 rfl (by decide) st2 ?_
  exact l_isPaidBy h hn hn8 hd n 0 (by omega) rfl
