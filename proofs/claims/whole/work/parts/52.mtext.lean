theorem nxT_8 {M : Me} {n : Nat} (h7 : 0 ≤ M 429 7 ∧ M 429 7 ≤ n) : 0 ≤ nxT M n 429 8 ∧ nxT M n 429 8 ≤ n := by
  have hb := skA_b (M := M) (n - M 429 7).toNat (M 429 7)
  unfold nxT
  generalize skA M (n - M 429 7).toNat (M 429 7) = s at hb ⊢
  unfold nxtS
  (repeat' split) <;> rw [tk_r8] <;> omega
def rtI (n : Nat) : Nat → Me → Int × Me
  | 0, M => (-1, M)
  | k + 1, M => if M 429 9 = 0 then (0, M) else if clV M n = 0 then rtI n k (clM M n) else (clV M n, clM M n)
def rtS (n : Nat) : Nat → Me → Prop
  | 0, _ => True
  | k + 1, M => M 429 9 ≠ 0 → CS M n ∧ (clV M n = 0 → rtS n k (clM M n))
theorem rtI_0 {n k : Nat} {M : Me} (h : M 429 9 = 0) : rtI n (k + 1) M = (0, M) := if_pos h
theorem rtI_s {n k : Nat} {M : Me} (h : M 429 9 ≠ 0) (h2 : clV M n = 0) : rtI n (k + 1) M = rtI n k (clM M n) := (if_neg h).trans (if_pos h2)
theorem rtI_e {n k : Nat} {M : Me} (h : M 429 9 ≠ 0) (h2 : clV M n ≠ 0) : rtI n (k + 1) M = (clV M n, clM M n) := (if_neg h).trans (if_neg h2)
theorem clM_s {M : Me} {n : Nat} (h : clV M n = 0) : (0 ≤ soO M ∧ M 432 (M 429 12) ≠ 24 ∧ (soO M ≤ 2 → and32 (shr32 (M 429 19) (soO M)) 1 ≠ 1)) ∧ clW M n = 0 ∧ clB M n 429 9 = 59 ∧ clM M n = nxT (clN M n) n := by
  unfold clV at h
  unfold clM
  split at h
  · omega
  · rename_i h1
    split at h
    · omega
    · rename_i h2
      split at h
      · omega
      · rename_i h3
        split at h
        · exact absurd h (by assumption)
        · rename_i h4
          split at h
          · rename_i h5
            refine ⟨⟨by omega, h3, fun q q2 => h2 ⟨q, q2⟩⟩, by omega, h5, ?_⟩
            rw [if_neg h1, if_neg h2, if_neg h3, if_neg h4, if_pos h5]
          · omega
theorem clN_o {M : Me} {n : Nat} (hs : 0 ≤ soO M) (hS : soO M ≤ 2 → SOK (clX M n) n (clI M)) {a j : Int} (h : a ≠ 434 ∧ a ≠ 432 ∧ ¬ (a = 429 ∧ ((7 ≤ j ∧ j ≤ 11) ∨ j = 13 ∨ j = 14 ∨ (16 ≤ j ∧ j ≤ 19)))) : clN M n a j = M a j := (up_ne (by omega)).trans (clB_o hs hS ⟨h.1, h.2.2⟩ (fun e => absurd e h.2.1))
theorem clN_7 {M : Me} {n : Nat} (h : P7 M n) : P7 (clN M n) n := (P7.bd (clX_7 h)).up (by omega)
theorem cl_CG {M : Me} {n : Nat} (hG : CG M n) (hS : CS M n) (h : clV M n = 0) : CG (clM M n) n := by
  obtain ⟨⟨hP, hn⟩, h8, h12, h24⟩ := hG
  obtain ⟨⟨hs, hm, hh⟩, -, -, e⟩ := clM_s h
  have hS2 : soO M ≤ 2 → SOK (clX M n) n (clI M) := fun q => hS hs q (hh q) hm
  rw [e]
  have hP2 := clN_7 hP
  have e12 : clN M n 429 12 = M 429 12 := clN_o hs hS2 (by omega)
  have e12b : nxT (clN M n) n 429 12 = M 429 12 := (nxT_o (by omega)).trans e12
  have e8 := nxT_8 (M := clN M n) (n := n) hP2.2
  refine ⟨⟨hP2.nx, hn⟩, by omega, by omega, ?_⟩
  rw [e12b, nxT_o (by omega)]
  unfold clN
  rw [up_eq ⟨rfl, rfl⟩]
  omega
theorem clM_o {M : Me} {n : Nat} (hS : CS M n) {a j : Int} (h : a ≠ 434 ∧ a ≠ 432 ∧ ¬ (a = 429 ∧ ((7 ≤ j ∧ j ≤ 11) ∨ j = 13 ∨ j = 14 ∨ (16 ≤ j ∧ j ≤ 19)))) : clM M n a j = M a j := by
  unfold clM
  split
  · rfl
  · rename_i h1
    split
    · rfl
    · rename_i h2
      split
      · rfl
      · rename_i h3
        have hS2 : soO M ≤ 2 → SOK (clX M n) n (clI M) := fun q => hS (by omega) q (fun q2 => h2 ⟨q, q2⟩) h3
        (repeat' split)
        · exact clB_o (by omega) hS2 ⟨h.1, h.2.2⟩ (fun e => absurd e h.2.1)
        · exact (nxT_o (by omega)).trans (clN_o (by omega) hS2 h)
        · exact clN_o (by omega) hS2 h
theorem rtI_o {n : Nat} {a j : Int} (h : a ≠ 434 ∧ a ≠ 432 ∧ ¬ (a = 429 ∧ ((7 ≤ j ∧ j ≤ 11) ∨ j = 13 ∨ j = 14 ∨ (16 ≤ j ∧ j ≤ 19)))) : ∀ (k : Nat) (M : Me), rtS n k M → (rtI n k M).2 a j = M a j := by
  intro k
  induction k with
  | zero => intro M _; rfl
  | succ k ih =>
    intro M hS
    by_cases h9 : M 429 9 = 0
    · rw [rtI_0 h9]
    · obtain ⟨hs, hg⟩ := hS h9
      by_cases hv : clV M n = 0
      · rw [rtI_s h9 hv, ih _ (hg hv)]; exact clM_o hs h
      · rw [rtI_e h9 hv]; exact clM_o hs h
theorem clV_b {M : Me} {n : Nat} (h : clV M n = -1) : clW M n = -1 := by
  unfold clV at h
  (repeat' split at h) <;> first | assumption | omega
/-- the start of a text -/
def rtX (M : Me) (n : Nat) : Me := nxT (up (up (up (up (up M 429 12 (705 * M 430 1)) 432 (705 * M 430 1) 0) 429 13 0) 429 19 0) 429 7 0) n
theorem rtX_o {M : Me} {n : Nat} {a j : Int} (h : a ≠ 432 ∧ ¬ (a = 429 ∧ ((7 ≤ j ∧ j ≤ 13) ∨ j = 19))) : rtX M n a j = M a j := by
  unfold rtX
  rw [nxT_o (by omega), up_ne (by omega), up_ne (by omega), up_ne (by omega), up_ne (by omega), up_ne (by omega)]
theorem rtX_CG {M : Me} {n : Nat} (h4 : M 429 4 = (n : Int)) (hn : n ≤ 300) (h1 : 0 ≤ M 430 1 ∧ M 430 1 ≤ 3) : CG (rtX M n) n := by
  have hP : P7 (up (up (up (up (up M 429 12 (705 * M 430 1)) 432 (705 * M 430 1) 0) 429 13 0) 429 19 0) 429 7 0) n := ⟨(up_ne (by omega)).trans ((up_ne (by omega)).trans ((up_ne (by omega)).trans ((up_ne (by omega)).trans ((up_ne (by omega)).trans h4)))), by rw [up_eq ⟨rfl, rfl⟩]; omega⟩
  have e12 : rtX M n 429 12 = 705 * M 430 1 := (nxT_o (by omega)).trans ((up_ne (by omega)).trans ((up_ne (by omega)).trans ((up_ne (by omega)).trans ((up_ne (by omega)).trans (up_eq ⟨rfl, rfl⟩)))))
  have e8 := nxT_8 (n := n) hP.2
  refine ⟨⟨hP.nx, hn⟩, ⟨e8.1, by have := e8.2; unfold rtX; omega⟩, by omega, ?_⟩
  rw [e12]
  unfold rtX
  rw [nxT_o (by omega), up_ne (by omega), up_ne (by omega), up_ne (by omega), up_eq ⟨rfl, rfl⟩]
  decide
def rtF : Nat := 29 + 1
abbrev rtR (M : Me) (n : Nat) : Int × Me := rtI n rtF (rtX M n)
/-- the text is read to an end, each law within the rows -/
def TOK (M : Me) (n : Nat) : Prop := rtS n rtF (rtX M n) ∧ (rtR M n).1 ≠ -1
theorem l_readText {x y z : Int} {n : Nat} : ∀ (k : Nat) (M : Me) {l1 : AV}, CG M n → rtS n k M → (rtI n k M).1 ≠ -1 → V kX11_readText 0 0 12 none (Ex (some (0, (rtI n k M).1)) (Sf x y z) (rtI n k M).2) 43 [(1, 429), l1] [] (Sf x y z) M 0 0 := by
  intro k
  induction k with
  | zero => intro M l1 _ _ hf; exact absurd rfl hf
  | succ k ih =>
    intro M l1 hG hS hf
    refine r_aload_n dX11_readText_43 rfl (by decide) ?_
    refine r_gi 9 dX11_readText_44 flX11_105 sf429 (by decide) (by decide) rfl rfl (by first | assumption | ((repeat (first | (apply rd_ne; · omega) | (apply rd_eq; · omega) | (apply rd_out; · omega) | (apply rd_in; · omega))); first | assumption | rfl)) ?_
    refine r_if_eq (tgt := 64) dX11_readText_47 (by decide) (fun h47 => ?_) (fun h47 => ?_)
    · refine r_iconst dX11_readText_64 (by decide) ?_
      refine r_iret dX11_readText_65 rfl ?_
      rw [rtI_0 (by assumption)]
      exact ⟨rfl, rfl, rfl⟩
    · refine r_aload_n dX11_readText_50 rfl (by decide) ?_
      refine r_cv0 dX11_readText_51 clX11_255 sf429 (by decide) (by decide) rfl (by first | decide | omega) (Nat.le_of_ble_eq_true rfl) ((m_clause hG (hS (by assumption)).1)) ⟨Nat.zero_le _, Nat.zero_le _⟩ (fun _ => ?_)
      refine r_istore_n dX11_readText_54 rfl (by decide) st1 ?_
      refine r_iload_n dX11_readText_55 rfl ?_
      refine r_if_eq (tgt := 61) dX11_readText_56 (by decide) (fun h56 => ?_) (fun h56 => ?_)
      · rw [rtI_s (by assumption) (by assumption)] at hf ⊢
        refine r_goto (tgt := 43) dX11_readText_61 (by decide) ?_
        exact ih _ (cl_CG hG (hS (by assumption)).1 (by assumption)) ((hS (by assumption)).2 (by assumption)) hf
      · refine r_iload_n dX11_readText_59 rfl ?_
        refine r_iret dX11_readText_60 rfl ?_
        rw [rtI_e (by assumption) (by assumption)]
        exact ⟨rfl, rfl, rfl⟩
theorem m_readText {x y z : Int} {M : Me} {n : Nat} (h4 : M 429 4 = (n : Int)) (hn : n ≤ 300) (h1 : 0 ≤ M 430 1 ∧ M 430 1 ≤ 3) (hT : TOK M n) : Con kX11_readText 12 0 0 [(1, 429)] (Sf x y z) M (Ex (some (0, (rtR M n).1)) (Sf x y z) (rtR M n).2) := by
  refine Con.ofV (al := [(1, 429), (9, 0)]) 1 (by decide) (Nat.le_of_ble_eq_true rfl) rfl ?_
  refine r_aload_n dX11_readText_0 rfl (by decide) ?_
  refine r_sipush dX11_readText_1 (by decide) (by decide) ?_
  refine r_aload_n dX11_readText_4 rfl (by decide) ?_
  refine r_getr (x := 430) dX11_readText_5 flX11_7 sf429 (by decide) (by decide) rfl rfl ?_
  refine r_iconst dX11_readText_8 (by decide) ?_
  refine r_iald dX11_readText_9 sf430 (by decide) (by omega) (by omega) (by decide) rfl ?_
  refine r_imul dX11_readText_10 (w32_id (by omega)) ?_
  refine r_pi 12 dX11_readText_11 fpX11_143 sf429 (by decide) (by decide) rfl rfl ?_
  refine r_aload_n dX11_readText_14 rfl (by decide) ?_
  refine r_getr (x := 432) dX11_readText_15 flX11_16 sf429 (by decide) (by decide) rfl rfl ?_
  refine r_aload_n dX11_readText_18 rfl (by decide) ?_
  refine r_gi 12 dX11_readText_19 flX11_143 sf429 (by decide) (by decide) rfl rfl (up_eq ⟨rfl, rfl⟩) ?_
  refine r_iconst dX11_readText_22 (by decide) ?_
  refine r_iast dX11_readText_23 sf432 (by decide) (by omega) (by omega) (by decide) rfl ?_
  refine r_aload_n dX11_readText_24 rfl (by decide) ?_
  refine r_iconst dX11_readText_25 (by decide) ?_
  refine r_pi 13 dX11_readText_26 fpX11_146 sf429 (by decide) (by decide) rfl rfl ?_
  refine r_aload_n dX11_readText_29 rfl (by decide) ?_
  refine r_iconst dX11_readText_30 (by decide) ?_
  refine r_pi 19 dX11_readText_31 fpX11_249 sf429 (by decide) (by decide) rfl rfl ?_
  refine r_aload_n dX11_readText_34 rfl (by decide) ?_
  refine r_iconst dX11_readText_35 (by decide) ?_
  refine r_pi 7 dX11_readText_36 fpX11_95 sf429 (by decide) (by decide) rfl rfl ?_
  refine r_aload_n dX11_readText_39 rfl (by decide) ?_
  refine r_cw0 dX11_readText_40 clX11_172 sf429 (by decide) (by decide) rfl (by first | decide | omega) (Nat.le_of_ble_eq_true rfl) ((m_nextToken (n := n) ((up_ne (by omega)).trans ((up_ne (by omega)).trans ((up_ne (by omega)).trans ((up_ne (by omega)).trans ((up_ne (by omega)).trans h4))))) hn (by rw [up_eq ⟨rfl, rfl⟩]; omega))) ⟨Nat.zero_le _, Nat.zero_le _⟩ ?_
  exact l_readText rtF _ (rtX_CG h4 hn h1) hT.1 hT.2
/-- behind a text: its fault, where, an empty tape, one more text if there is none -/
def txA (M : Me) (n : Nat) : Me := up (up (up (rtR M n).2 429 5 (rtR M n).1) 429 6 (if (rtR M n).1 = 0 then -1 else (rtR M n).2 429 8)) 429 4 0
def txV (M : Me) (n : Nat) : Int := if M 430 1 = 4 then -1 else if (rtR M n).1 = 0 then M 430 1 else -1
def txM (M : Me) (n : Nat) : Me := if M 430 1 = 4 then M else if (rtR M n).1 = 0 then up (txA M n) 430 1 (M 430 1 + 1) else txA M n
theorem txA_o {M : Me} {n : Nat} (hT : TOK M n) {a j : Int} (h : a ≠ 434 ∧ a ≠ 432 ∧ ¬ (a = 429 ∧ ((4 ≤ j ∧ j ≤ 14) ∨ (16 ≤ j ∧ j ≤ 19)))) : txA M n a j = M a j := by
  unfold txA
  rw [up_ne (by omega), up_ne (by omega), up_ne (by omega), rtI_o (by omega) rtF _ hT.1, rtX_o (by omega)]
theorem m_text {x y z : Int} {M : Me} {n : Nat} (h4 : M 429 4 = (n : Int)) (hn : n ≤ 300) (h1 : 0 ≤ M 430 1 ∧ M 430 1 ≤ 4) (hT : M 430 1 ≠ 4 → TOK M n) : Con kX11_text 13 0 0 [(1, 429)] (Sf x y z) M (Ex (some (0, txV M n)) (Sf x y z) (txM M n)) := by
  refine Con.ofV (al := [(1, 429)]) 0 (by decide) (Nat.le_of_ble_eq_true rfl) rfl ?_
  refine r_aload_n dX11_text_0 rfl (by decide) ?_
  refine r_getr (x := 430) dX11_text_1 flX11_7 sf429 (by decide) (by decide) rfl rfl ?_
  refine r_iconst dX11_text_4 (by decide) ?_
  refine r_iald dX11_text_5 sf430 (by decide) (by omega) (by omega) (by decide) rfl ?_
  refine r_iconst dX11_text_6 (by decide) ?_
  refine r_icmp_ne (tgt := 12) dX11_text_7 (by decide) (fun h7 => ?_) (fun h7 => ?_)
  · refine r_aload_n dX11_text_12 rfl (by decide) ?_
    refine r_aload_n dX11_text_13 rfl (by decide) ?_
    refine r_cv0 dX11_text_14 clX11_258 sf429 (by decide) (by decide) rfl (by first | decide | omega) (Nat.le_of_ble_eq_true rfl) ((m_readText h4 hn (by omega) (hT (by omega)))) ⟨Nat.zero_le _, Nat.zero_le _⟩ (fun _ => ?_)
    refine r_pi 5 dX11_text_17 fpX11_22 sf429 (by decide) (by decide) rfl rfl ?_
    refine r_aload_n dX11_text_20 rfl (by decide) ?_
    refine r_aload_n dX11_text_21 rfl (by decide) ?_
    refine r_gi 5 dX11_text_22 flX11_22 sf429 (by decide) (by decide) rfl rfl (up_eq ⟨rfl, rfl⟩) ?_
    refine r_if_ne (tgt := 32) dX11_text_25 (by decide) (fun h25 => ?_) (fun h25 => ?_)
    · refine r_aload_n dX11_text_32 rfl (by decide) ?_
      refine r_gi 8 dX11_text_33 flX11_102 sf429 (by decide) (by decide) rfl rfl (up_ne (by omega)) ?_
      refine r_pi 6 dX11_text_36 fpX11_26 sf429 (by decide) (by decide) rfl rfl ?_
      refine r_aload_n dX11_text_39 rfl (by decide) ?_
      refine r_iconst dX11_text_40 (by decide) ?_
      refine r_pi 4 dX11_text_41 fpX11_88 sf429 (by decide) (by decide) rfl rfl ?_
      refine V.cm rfl (show _ = txA M n from by unfold txA; rw [if_neg (by assumption)]) ?_
      refine r_aload_n dX11_text_44 rfl (by decide) ?_
      refine r_gi 5 dX11_text_45 flX11_22 sf429 (by decide) (by decide) rfl rfl ((up_ne (by omega)).trans ((up_ne (by omega)).trans (up_eq ⟨rfl, rfl⟩))) ?_
      refine r_if_eq (tgt := 53) dX11_text_48 (by decide) (fun h48 => by exfalso; omega) (fun h48 => ?_)
      refine r_iconst dX11_text_51 (by decide) ?_
      refine r_iret dX11_text_52 rfl ?_
      exact ⟨by unfold txV; rw [if_neg (by omega), if_neg (by assumption)], rfl, by unfold txM; rw [if_neg (by omega), if_neg (by assumption)]⟩
    · refine r_iconst dX11_text_28 (by decide) ?_
      refine r_goto (tgt := 36) dX11_text_29 (by decide) ?_
      refine r_pi 6 dX11_text_36 fpX11_26 sf429 (by decide) (by decide) rfl rfl ?_
      refine r_aload_n dX11_text_39 rfl (by decide) ?_
      refine r_iconst dX11_text_40 (by decide) ?_
      refine r_pi 4 dX11_text_41 fpX11_88 sf429 (by decide) (by decide) rfl rfl ?_
      refine V.cm rfl (show _ = txA M n from by unfold txA; rw [if_pos (by assumption)]) ?_
      refine r_aload_n dX11_text_44 rfl (by decide) ?_
      refine r_gi 5 dX11_text_45 flX11_22 sf429 (by decide) (by decide) rfl rfl ((up_ne (by omega)).trans ((up_ne (by omega)).trans (up_eq ⟨rfl, rfl⟩))) ?_
      refine r_if_eq (tgt := 53) dX11_text_48 (by decide) (fun h48 => ?_) (fun h48 => by exfalso; omega)
      refine r_aload_n dX11_text_53 rfl (by decide) ?_
      refine r_getr (x := 430) dX11_text_54 flX11_7 sf429 (by decide) (by decide) rfl rfl ?_
      refine r_iconst dX11_text_57 (by decide) ?_
      refine r_dup2 dX11_text_58 (Nat.ne_of_beq_eq_false rfl) (Nat.ne_of_beq_eq_false rfl) ?_
      refine r_iald dX11_text_59 sf430 (by decide) (by omega) (by omega) (by decide) (txA_o (hT (by omega)) (by omega)) ?_
      refine r_iconst dX11_text_60 (by decide) ?_
      refine r_iadd dX11_text_61 (w32_id (by omega)) ?_
      refine r_iast dX11_text_62 sf430 (by decide) (by omega) (by omega) (by decide) rfl ?_
      refine r_aload_n dX11_text_63 rfl (by decide) ?_
      refine r_getr (x := 430) dX11_text_64 flX11_7 sf429 (by decide) (by decide) rfl rfl ?_
      refine r_iconst dX11_text_67 (by decide) ?_
      refine r_iald dX11_text_68 sf430 (by decide) (by omega) (by omega) (by decide) (up_eq ⟨rfl, rfl⟩) ?_
      refine r_iconst dX11_text_69 (by decide) ?_
      refine r_isub dX11_text_70 (w32_id (by omega)) ?_
      refine r_iret dX11_text_71 rfl ?_
      exact ⟨by unfold txV; rw [if_neg (by omega), if_pos (by assumption), show M 430 1 + 1 - 1 = M 430 1 by omega], rfl, by unfold txM; rw [if_neg (by omega), if_pos (by assumption)]⟩
  · refine r_iconst dX11_text_10 (by decide) ?_
    refine r_iret dX11_text_11 rfl ?_
    exact ⟨by unfold txV; rw [if_pos (by omega)], rfl, by unfold txM; rw [if_pos (by omega)]⟩
