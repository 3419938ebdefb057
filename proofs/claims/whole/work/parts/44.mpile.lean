theorem emA_o {M : Me} {k v a j : Int} (h : a ≠ 432 ∧ ¬ (a = 429 ∧ j = 13)) : emA M k v a j = M a j := by
  unfold emA
  exact rd_ne h.2 (rd_ne (fun q => h.1 q.1) (rd_ne (fun q => h.1 q.1) rfl))
theorem emA_13 {M : Me} {k v : Int} : emA M k v 429 13 = M 429 13 + 1 := up_eq ⟨rfl, rfl⟩
/-- the pile's top put into the code -/
def tpA (M : Me) (i : Int) : Me := emA (up M 429 16 i) (M 434 i) 0
def stl (M : Me) (r : Int) : Nat → Me
  | 0 => M
  | i + 1 => if r ≤ rnk (M 434 i) then stl (if rnk (M 434 i) = 7 ∨ M 434 i = 20 then up (tpA M i) 429 17 (tpA M i 429 17 - 1) else tpA M i) r i else M
theorem stl_t {M N : Me} {r : Int} {i : Nat} (h : r ≤ rnk (M 434 i)) (hN : (if rnk (M 434 i) = 7 ∨ M 434 i = 20 then up (tpA M i) 429 17 (tpA M i 429 17 - 1) else tpA M i) = N) : stl M r (i + 1) = stl N r i := by
  subst hN; exact if_pos h
theorem tpA_o {M : Me} {i a j : Int} (h : a ≠ 432 ∧ ¬ (a = 429 ∧ (j = 13 ∨ j = 16))) : tpA M i a j = M a j := (emA_o (by omega)).trans (up_ne (by omega))
theorem tpA_16 {M : Me} {i : Int} : tpA M i 429 16 = i := (emA_o (by omega)).trans (up_eq ⟨rfl, rfl⟩)
theorem tpA_13 {M : Me} {i : Int} : tpA M i 429 13 = M 429 13 + 1 := emA_13.trans (by rw [up_ne (by omega)])
theorem l_settle {x y z r : Int} : ∀ (i : Nat) (M : Me), M 429 16 = (i : Int) → (0 ≤ M 429 12 ∧ M 429 12 ≤ 2115) → (0 ≤ M 429 13 ∧ M 429 13 + i ≤ 304 ∧ i ≤ 160) → ((i : Int) - 1000 ≤ M 429 17 ∧ M 429 17 ≤ 1000) → V kX11_settle 0 0 1 none (Ex none (Sf x y z) (stl M r i)) 0 [(1, 429), (0, r)] [] (Sf x y z) M 0 0 := by
  intro i
  induction i with
  | zero =>
    intro M h16 h12 h13 h17
    refine r_aload_n dX11_settle_0 rfl (by decide) ?_
    refine r_gi 16 dX11_settle_1 flX11_152 sf429 (by decide) (by decide) rfl rfl h16 ?_
    refine r_if_le (tgt := 93) dX11_settle_4 (by decide) (fun h4 => ?_) (fun h4 => by exfalso; omega)
    refine r_ret0 dX11_settle_93 rfl ?_
    exact ⟨rfl, rfl, rfl⟩
  | succ i ih =>
    intro M h16 h12 h13 h17
    refine r_aload_n dX11_settle_0 rfl (by decide) ?_
    refine r_gi 16 dX11_settle_1 flX11_152 sf429 (by decide) (by decide) rfl rfl h16 ?_
    refine r_if_le (tgt := 93) dX11_settle_4 (by decide) (fun h4 => by exfalso; omega) (fun h4 => ?_)
    refine r_aload_n dX11_settle_7 rfl (by decide) ?_
    refine r_getr (x := 434) dX11_settle_8 flX11_29 sf429 (by decide) (by decide) rfl rfl ?_
    refine r_aload_n dX11_settle_11 rfl (by decide) ?_
    refine r_gi 16 dX11_settle_12 flX11_152 sf429 (by decide) (by decide) rfl rfl h16 ?_
    refine r_iconst dX11_settle_15 (by decide) ?_
    refine r_isub dX11_settle_16 (w32_id (by omega)) ?_
    refine r_iald dX11_settle_17 sf434 (by decide) (by omega) (by omega) (by decide) (by first | assumption | ((repeat (first | (apply rd_ne; · omega) | (apply rd_eq; · omega) | (apply rd_out; · omega) | (apply rd_in; · omega))); first | assumption | rfl)) ?_
    rw [show ((i + 1 : Nat) : Int) - 1 = (i : Int) by omega]
    refine r_cs1 dX11_settle_18 clX11_155 (by first | decide | omega) (Nat.le_of_ble_eq_true rfl) (c_rank) ⟨Nat.zero_le _, Nat.zero_le _⟩ (fun _ => ?_)
    refine r_iload_n dX11_settle_21 rfl ?_
    refine r_icmp_lt (tgt := 93) dX11_settle_22 (by decide) (fun h22 => ?_) (fun h22 => ?_)
    · refine r_ret0 dX11_settle_93 rfl ?_
      exact ⟨rfl, rfl, (if_neg (by omega)).symm⟩
    · refine r_aload_n dX11_settle_25 rfl (by decide) ?_
      refine r_dup dX11_settle_26 (Nat.ne_of_beq_eq_false rfl) ?_
      refine r_gi 16 dX11_settle_27 flX11_152 sf429 (by decide) (by decide) rfl rfl h16 ?_
      refine r_iconst dX11_settle_30 (by decide) ?_
      refine r_isub dX11_settle_31 (w32_id (by omega)) ?_
      refine r_pi 16 dX11_settle_32 fpX11_152 sf429 (by decide) (by decide) rfl rfl ?_
      rw [show ((i + 1 : Nat) : Int) - 1 = (i : Int) by omega]
      refine r_aload_n dX11_settle_35 rfl (by decide) ?_
      refine r_aload_n dX11_settle_36 rfl (by decide) ?_
      refine r_getr (x := 434) dX11_settle_37 flX11_29 sf429 (by decide) (by decide) rfl rfl ?_
      refine r_aload_n dX11_settle_40 rfl (by decide) ?_
      refine r_gi 16 dX11_settle_41 flX11_152 sf429 (by decide) (by decide) rfl rfl (rd_eq (by omega) rfl) ?_
      refine r_iald dX11_settle_44 sf434 (by decide) (by omega) (by omega) (by decide) (rd_ne (by omega) rfl) ?_
      refine r_iconst dX11_settle_45 (by decide) ?_
      refine r_cw2 dX11_settle_46 clX11_158 sf429 (by decide) (by decide) rfl (by first | decide | omega) (Nat.le_of_ble_eq_true rfl) ((c_emit (by rw [up_ne (by omega)]; exact h12) (by rw [up_ne (by omega)]; omega))) ⟨Nat.zero_le _, Nat.zero_le _⟩ ?_
      refine V.cm rfl (show _ = tpA M i from rfl) ?_
      refine r_aload_n dX11_settle_49 rfl (by decide) ?_
      refine r_getr (x := 434) dX11_settle_50 flX11_29 sf429 (by decide) (by decide) rfl rfl ?_
      refine r_aload_n dX11_settle_53 rfl (by decide) ?_
      refine r_gi 16 dX11_settle_54 flX11_152 sf429 (by decide) (by decide) rfl rfl tpA_16 ?_
      refine r_iald dX11_settle_57 sf434 (by decide) (by omega) (by omega) (by decide) (tpA_o (by omega)) ?_
      refine r_cs1 dX11_settle_58 clX11_155 (by first | decide | omega) (Nat.le_of_ble_eq_true rfl) (c_rank) ⟨Nat.zero_le _, Nat.zero_le _⟩ (fun _ => ?_)
      refine r_bipush dX11_settle_61 (by decide) (by decide) ?_
      refine r_icmp_eq (tgt := 80) dX11_settle_63 (by decide) (fun h63 => ?_) (fun h63 => ?_)
      · refine r_aload_n dX11_settle_80 rfl (by decide) ?_
        refine r_dup dX11_settle_81 (Nat.ne_of_beq_eq_false rfl) ?_
        refine r_gi 17 dX11_settle_82 flX11_162 sf429 (by decide) (by decide) rfl rfl rfl ?_
        have h17b : tpA M i 429 17 = M 429 17 := tpA_o (by omega)
        refine r_iconst dX11_settle_85 (by decide) ?_
        refine r_isub dX11_settle_86 (w32_id (by omega)) ?_
        refine r_pi 17 dX11_settle_87 fpX11_162 sf429 (by decide) (by decide) rfl rfl ?_
        refine r_goto (tgt := 0) dX11_settle_90 (by decide) ?_
        first | (rw [stl_t (by omega) (if_pos (by omega))]; exact ih _ (rd_ne (by omega) tpA_16) (by rw [up_ne (by omega), tpA_o (by omega)]; exact h12) (by rw [up_ne (by omega), tpA_13]; omega) (by rw [up_eq ⟨rfl, rfl⟩, tpA_o (by omega)]; omega)) | (rw [stl_t (by omega) (if_neg (by omega))]; exact ih _ tpA_16 (by rw [tpA_o (by omega)]; exact h12) (by rw [tpA_13]; omega) (by rw [tpA_o (by omega)]; omega))
      · refine r_aload_n dX11_settle_66 rfl (by decide) ?_
        refine r_getr (x := 434) dX11_settle_67 flX11_29 sf429 (by decide) (by decide) rfl rfl ?_
        refine r_aload_n dX11_settle_70 rfl (by decide) ?_
        refine r_gi 16 dX11_settle_71 flX11_152 sf429 (by decide) (by decide) rfl rfl tpA_16 ?_
        refine r_iald dX11_settle_74 sf434 (by decide) (by omega) (by omega) (by decide) (tpA_o (by omega)) ?_
        refine r_bipush dX11_settle_75 (by decide) (by decide) ?_
        refine r_icmp_ne (tgt := 0) dX11_settle_77 (by decide) (fun h77 => ?_) (fun h77 => ?_)
        · first | (rw [stl_t (by omega) (if_pos (by omega))]; exact ih _ (rd_ne (by omega) tpA_16) (by rw [up_ne (by omega), tpA_o (by omega)]; exact h12) (by rw [up_ne (by omega), tpA_13]; omega) (by rw [up_eq ⟨rfl, rfl⟩, tpA_o (by omega)]; omega)) | (rw [stl_t (by omega) (if_neg (by omega))]; exact ih _ tpA_16 (by rw [tpA_o (by omega)]; exact h12) (by rw [tpA_13]; omega) (by rw [tpA_o (by omega)]; omega))
        · refine r_aload_n dX11_settle_80 rfl (by decide) ?_
          refine r_dup dX11_settle_81 (Nat.ne_of_beq_eq_false rfl) ?_
          refine r_gi 17 dX11_settle_82 flX11_162 sf429 (by decide) (by decide) rfl rfl rfl ?_
          have h17b : tpA M i 429 17 = M 429 17 := tpA_o (by omega)
          refine r_iconst dX11_settle_85 (by decide) ?_
          refine r_isub dX11_settle_86 (w32_id (by omega)) ?_
          refine r_pi 17 dX11_settle_87 fpX11_162 sf429 (by decide) (by decide) rfl rfl ?_
          refine r_goto (tgt := 0) dX11_settle_90 (by decide) ?_
          first | (rw [stl_t (by omega) (if_pos (by omega))]; exact ih _ (rd_ne (by omega) tpA_16) (by rw [up_ne (by omega), tpA_o (by omega)]; exact h12) (by rw [up_ne (by omega), tpA_13]; omega) (by rw [up_eq ⟨rfl, rfl⟩, tpA_o (by omega)]; omega)) | (rw [stl_t (by omega) (if_neg (by omega))]; exact ih _ tpA_16 (by rw [tpA_o (by omega)]; exact h12) (by rw [tpA_13]; omega) (by rw [tpA_o (by omega)]; omega))
theorem m_settle {x y z : Int} {M : Me} {r : Int} {i : Nat} (h16 : M 429 16 = (i : Int)) (h12 : 0 ≤ M 429 12 ∧ M 429 12 ≤ 2115) (h13 : 0 ≤ M 429 13 ∧ M 429 13 + i ≤ 304 ∧ i ≤ 160) (h17 : (i : Int) - 1000 ≤ M 429 17 ∧ M 429 17 ≤ 1000) : Con kX11_settle 1 0 0 [(1, 429), (0, r)] (Sf x y z) M (Ex none (Sf x y z) (stl M r i)) := by
  refine Con.ofV (al := [(1, 429), (0, r)]) 0 (by decide) (Nat.le_of_ble_eq_true rfl) rfl ?_
  exact l_settle i M h16 h12 h13 h17
def opM (M : Me) (v : Int) : Me := up (up (up M 429 17 (M 429 17 + 1)) 434 (M 429 16) v) 429 16 (M 429 16 + 1)
theorem opM_o {M : Me} {v a j : Int} (h : a ≠ 434 ∧ ¬ (a = 429 ∧ (j = 16 ∨ j = 17))) : opM M v a j = M a j := by
  unfold opM
  exact rd_ne (by omega) (rd_ne (by omega) (rd_ne (by omega) rfl))
/-- below those that weigh more, one that is asked -/
def icS (M : Me) : Nat → Int
  | 0 => 0
  | i + 1 => if 4 < rnk (M 434 i) then icS M i else bi (rnk (M 434 i) = 4)
theorem m_opened {x y z : Int} {M : Me} {v : Int} {n : Nat} (h4 : M 429 4 = (n : Int)) (hn : n ≤ 300) (h7 : 0 ≤ M 429 7 ∧ M 429 7 ≤ n) (h16 : 0 ≤ M 429 16 ∧ M 429 16 < 160) (h17 : -1000 ≤ M 429 17 ∧ M 429 17 ≤ 1000) : Con kX11_opened 2 0 0 [(1, 429), (0, v)] (Sf x y z) M (fun v9 S9 M9 => S9 = (Sf x y z) ∧ ((M 429 17 = 8) ∧ v9 = some (0, 3) ∧ M9 = M ∨ (M 429 17 ≠ 8) ∧ v9 = some (0, 0) ∧ M9 = nxT (opM M v) n)) := by
  refine Con.ofV (al := [(1, 429), (0, v)]) 0 (by decide) (Nat.le_of_ble_eq_true rfl) rfl ?_
  refine r_aload_n dX11_opened_0 rfl (by decide) ?_
  refine r_gi 17 dX11_opened_1 flX11_162 sf429 (by decide) (by decide) rfl rfl (by first | assumption | ((repeat (first | (apply rd_ne; · omega) | (apply rd_eq; · omega) | (apply rd_out; · omega) | (apply rd_in; · omega))); first | assumption | rfl)) ?_
  refine r_bipush dX11_opened_4 (by decide) (by decide) ?_
  refine r_icmp_ne (tgt := 11) dX11_opened_6 (by decide) (fun h6 => ?_) (fun h6 => ?_)
  · refine r_aload_n dX11_opened_11 rfl (by decide) ?_
    refine r_dup dX11_opened_12 (Nat.ne_of_beq_eq_false rfl) ?_
    refine r_gi 17 dX11_opened_13 flX11_162 sf429 (by decide) (by decide) rfl rfl (by first | assumption | ((repeat (first | (apply rd_ne; · omega) | (apply rd_eq; · omega) | (apply rd_out; · omega) | (apply rd_in; · omega))); first | assumption | rfl)) ?_
    refine r_iconst dX11_opened_16 (by decide) ?_
    refine r_iadd dX11_opened_17 (w32_id (by omega)) ?_
    refine r_pi 17 dX11_opened_18 fpX11_162 sf429 (by decide) (by decide) rfl rfl ?_
    refine r_aload_n dX11_opened_21 rfl (by decide) ?_
    refine r_getr (x := 434) dX11_opened_22 flX11_29 sf429 (by decide) (by decide) rfl rfl ?_
    refine r_aload_n dX11_opened_25 rfl (by decide) ?_
    refine r_gi 16 dX11_opened_26 flX11_152 sf429 (by decide) (by decide) rfl rfl (by first | assumption | ((repeat (first | (apply rd_ne; · omega) | (apply rd_eq; · omega) | (apply rd_out; · omega) | (apply rd_in; · omega))); first | assumption | rfl)) ?_
    refine r_iload_n dX11_opened_29 rfl ?_
    refine r_iast dX11_opened_30 sf434 (by decide) (by omega) (by omega) (by decide) rfl ?_
    refine r_aload_n dX11_opened_31 rfl (by decide) ?_
    refine r_dup dX11_opened_32 (Nat.ne_of_beq_eq_false rfl) ?_
    refine r_gi 16 dX11_opened_33 flX11_152 sf429 (by decide) (by decide) rfl rfl (by first | assumption | ((repeat (first | (apply rd_ne; · omega) | (apply rd_eq; · omega) | (apply rd_out; · omega) | (apply rd_in; · omega))); first | assumption | rfl)) ?_
    refine r_iconst dX11_opened_36 (by decide) ?_
    refine r_iadd dX11_opened_37 (w32_id (by omega)) ?_
    refine r_pi 16 dX11_opened_38 fpX11_152 sf429 (by decide) (by decide) rfl rfl ?_
    refine V.cm rfl (show _ = opM M v from rfl) ?_
    refine r_aload_n dX11_opened_41 rfl (by decide) ?_
    refine r_cw0 dX11_opened_42 clX11_172 sf429 (by decide) (by decide) rfl (by first | decide | omega) (Nat.le_of_ble_eq_true rfl) ((m_nextToken ((opM_o (by omega)).trans h4) hn (by rw [opM_o (by omega)]; exact h7))) ⟨Nat.zero_le _, Nat.zero_le _⟩ ?_
    refine r_iconst dX11_opened_45 (by decide) ?_
    refine r_iret dX11_opened_46 rfl ?_
    first | exact ⟨rfl, Or.inl ⟨by omega, rfl, rfl⟩⟩ | exact ⟨rfl, Or.inr (⟨by omega, rfl, rfl⟩)⟩
  · refine r_iconst dX11_opened_9 (by decide) ?_
    refine r_iret dX11_opened_10 rfl ?_
    first | exact ⟨rfl, Or.inl ⟨by omega, rfl, rfl⟩⟩ | exact ⟨rfl, Or.inr (⟨by omega, rfl, rfl⟩)⟩
theorem l_isCompared {x y z : Int} {M : Me} {R : Int} : ∀ i : Nat, i ≤ 160 → icS M i = R → V kX11_isCompared 0 0 1 none (Ex (some (0, R)) (Sf x y z) M) 7 [(1, 429), (0, (i : Int) - 1)] [] (Sf x y z) M 0 0 := by
  intro i
  induction i with
  | zero =>
    intro hi hR
    refine r_iload_n dX11_isCompared_7 rfl ?_
    refine r_if_lt (tgt := 30) dX11_isCompared_8 (by decide) (fun h8 => ?_) (fun h8 => by exfalso; omega)
    refine r_iload_n dX11_isCompared_30 rfl ?_
    refine r_if_lt (tgt := 51) dX11_isCompared_31 (by decide) (fun h31 => ?_) (fun h31 => by exfalso; omega)
    refine r_iconst dX11_isCompared_51 (by decide) ?_
    refine r_zret dX11_isCompared_52 rfl (by omega) ?_
    exact ⟨by rw [← hR]; rfl, rfl, rfl⟩
  | succ i ih =>
    intro hi hR
    rw [show ((i + 1 : Nat) : Int) - 1 = (i : Int) by omega]
    refine r_iload_n dX11_isCompared_7 rfl ?_
    refine r_if_lt (tgt := 30) dX11_isCompared_8 (by decide) (fun h8 => by exfalso; omega) (fun h8 => ?_)
    refine r_aload_n dX11_isCompared_11 rfl (by decide) ?_
    refine r_getr (x := 434) dX11_isCompared_12 flX11_29 sf429 (by decide) (by decide) rfl rfl ?_
    refine r_iload_n dX11_isCompared_15 rfl ?_
    refine r_iald dX11_isCompared_16 sf434 (by decide) (by omega) (by omega) (by decide) (by first | assumption | ((repeat (first | (apply rd_ne; · omega) | (apply rd_eq; · omega) | (apply rd_out; · omega) | (apply rd_in; · omega))); first | assumption | rfl)) ?_
    refine r_cs1 dX11_isCompared_17 clX11_155 (by first | decide | omega) (Nat.le_of_ble_eq_true rfl) (c_rank) ⟨Nat.zero_le _, Nat.zero_le _⟩ (fun _ => ?_)
    refine r_iconst dX11_isCompared_20 (by decide) ?_
    refine r_icmp_le (tgt := 30) dX11_isCompared_21 (by decide) (fun h21 => ?_) (fun h21 => ?_)
    · refine r_iload_n dX11_isCompared_30 rfl ?_
      refine r_if_lt (tgt := 51) dX11_isCompared_31 (by decide) (fun h31 => by exfalso; omega) (fun h31 => ?_)
      refine r_aload_n dX11_isCompared_34 rfl (by decide) ?_
      refine r_getr (x := 434) dX11_isCompared_35 flX11_29 sf429 (by decide) (by decide) rfl rfl ?_
      refine r_iload_n dX11_isCompared_38 rfl ?_
      refine r_iald dX11_isCompared_39 sf434 (by decide) (by omega) (by omega) (by decide) (by first | assumption | ((repeat (first | (apply rd_ne; · omega) | (apply rd_eq; · omega) | (apply rd_out; · omega) | (apply rd_in; · omega))); first | assumption | rfl)) ?_
      refine r_cs1 dX11_isCompared_40 clX11_155 (by first | decide | omega) (Nat.le_of_ble_eq_true rfl) (c_rank) ⟨Nat.zero_le _, Nat.zero_le _⟩ (fun _ => ?_)
      refine r_iconst dX11_isCompared_43 (by decide) ?_
      refine r_icmp_ne (tgt := 51) dX11_isCompared_44 (by decide) (fun h44 => ?_) (fun h44 => ?_)
      · refine r_iconst dX11_isCompared_51 (by decide) ?_
        refine r_zret dX11_isCompared_52 rfl (by omega) ?_
        exact ⟨by rw [← hR]; refine congrArg (fun q => some (0, q)) (Eq.symm ((if_neg (by omega)).trans ?_)); unfold bi; first | exact if_pos (by omega) | exact if_neg (by omega), rfl, rfl⟩
      · refine r_iconst dX11_isCompared_47 (by decide) ?_
        refine r_goto (tgt := 52) dX11_isCompared_48 (by decide) ?_
        refine r_zret dX11_isCompared_52 rfl (by omega) ?_
        exact ⟨by rw [← hR]; refine congrArg (fun q => some (0, q)) (Eq.symm ((if_neg (by omega)).trans ?_)); unfold bi; first | exact if_pos (by omega) | exact if_neg (by omega), rfl, rfl⟩
    · refine r_iinc dX11_isCompared_24 rfl rfl (by decide) (w32_id (by omega)) st1 ?_
      refine r_goto (tgt := 7) dX11_isCompared_27 (by decide) ?_
      exact ih (by omega) ((if_pos (by omega)).symm.trans hR)
theorem m_isCompared {x y z : Int} {M : Me} {n : Nat} (hn : M 429 16 = (n : Int)) (hn9 : n ≤ 160) : Con kX11_isCompared 1 0 0 [(1, 429)] (Sf x y z) M (Ex (some (0, icS M n)) (Sf x y z) M) := by
  refine Con.ofV (al := [(1, 429), (9, 0)]) 1 (by decide) (Nat.le_of_ble_eq_true rfl) rfl ?_
  refine r_aload_n dX11_isCompared_0 rfl (by decide) ?_
  refine r_gi 16 dX11_isCompared_1 flX11_152 sf429 (by decide) (by decide) rfl rfl hn ?_
  refine r_iconst dX11_isCompared_4 (by decide) ?_
  refine r_isub dX11_isCompared_5 (w32_id (by omega)) ?_
  refine r_istore_n dX11_isCompared_6 rfl (by decide) st1 ?_
  exact l_isCompared n hn9 rfl
theorem m_isAskAhead {x y z : Int} {M : Me} {n : Nat} (hn : M 429 16 = (n : Int)) (hn9 : n ≤ 160) : Con kX11_isAskAhead 2 0 0 [(1, 429)] (Sf x y z) M (Ex (some (0, bi (opn M n = 41 ∧ (40 ≤ M 434 ((n : Int) - 1) ∨ (1 ≤ rnk (M 434 ((n : Int) - 1)) ∧ rnk (M 434 ((n : Int) - 1)) ≤ 3))))) (Sf x y z) M) := by
  refine Con.ofV (al := [(1, 429)]) 0 (by decide) (Nat.le_of_ble_eq_true rfl) rfl ?_
  have hb := oaS_b (M := M) n
  have ho : opn M n = 41 → 1 ≤ n := fun h => by
    unfold opn at h
    split at h <;> omega
  refine r_aload_n dX11_isAskAhead_0 rfl (by decide) ?_
  refine r_cv0 dX11_isAskAhead_1 clX11_169 sf429 (by decide) (by decide) rfl (by first | decide | omega) (Nat.le_of_ble_eq_true rfl) ((c_openNow hn hn9)) ⟨Nat.zero_le _, Nat.zero_le _⟩ (fun _ => ?_)
  refine r_bipush dX11_isAskAhead_4 (by decide) (by decide) ?_
  refine r_icmp_ne (tgt := 51) dX11_isAskAhead_6 (by decide) (fun h6 => ?_) (fun h6 => ?_)
  · refine r_iconst dX11_isAskAhead_51 (by decide) ?_
    refine r_zret dX11_isAskAhead_52 rfl (by omega) ?_
    refine ⟨?_, rfl, rfl⟩; unfold bi; (repeat' split) <;> first | rfl | (exfalso; omega)
  · refine r_aload_n dX11_isAskAhead_9 rfl (by decide) ?_
    refine r_getr (x := 434) dX11_isAskAhead_10 flX11_29 sf429 (by decide) (by decide) rfl rfl ?_
    refine r_aload_n dX11_isAskAhead_13 rfl (by decide) ?_
    refine r_gi 16 dX11_isAskAhead_14 flX11_152 sf429 (by decide) (by decide) rfl rfl hn ?_
    refine r_iconst dX11_isAskAhead_17 (by decide) ?_
    refine r_isub dX11_isAskAhead_18 (w32_id (by omega)) ?_
    refine r_iald dX11_isAskAhead_19 sf434 (by decide) (by omega) (by omega) (by decide) (by first | assumption | ((repeat (first | (apply rd_ne; · omega) | (apply rd_eq; · omega) | (apply rd_out; · omega) | (apply rd_in; · omega))); first | assumption | rfl)) ?_
    refine r_bipush dX11_isAskAhead_20 (by decide) (by decide) ?_
    refine r_icmp_ge (tgt := 47) dX11_isAskAhead_22 (by decide) (fun h22 => ?_) (fun h22 => ?_)
    · refine r_iconst dX11_isAskAhead_47 (by decide) ?_
      refine r_goto (tgt := 52) dX11_isAskAhead_48 (by decide) ?_
      refine r_zret dX11_isAskAhead_52 rfl (by omega) ?_
      refine ⟨?_, rfl, rfl⟩; unfold bi; (repeat' split) <;> first | rfl | (exfalso; omega)
    · refine r_aload_n dX11_isAskAhead_25 rfl (by decide) ?_
      refine r_getr (x := 434) dX11_isAskAhead_26 flX11_29 sf429 (by decide) (by decide) rfl rfl ?_
      refine r_aload_n dX11_isAskAhead_29 rfl (by decide) ?_
      refine r_gi 16 dX11_isAskAhead_30 flX11_152 sf429 (by decide) (by decide) rfl rfl hn ?_
      refine r_iconst dX11_isAskAhead_33 (by decide) ?_
      refine r_isub dX11_isAskAhead_34 (w32_id (by omega)) ?_
      refine r_iald dX11_isAskAhead_35 sf434 (by decide) (by omega) (by omega) (by decide) (by first | assumption | ((repeat (first | (apply rd_ne; · omega) | (apply rd_eq; · omega) | (apply rd_out; · omega) | (apply rd_in; · omega))); first | assumption | rfl)) ?_
      refine r_cs1 dX11_isAskAhead_36 clX11_155 (by first | decide | omega) (Nat.le_of_ble_eq_true rfl) (c_rank) ⟨Nat.zero_le _, Nat.zero_le _⟩ (fun _ => ?_)
      refine r_iconst dX11_isAskAhead_39 (by decide) ?_
      refine r_iconst dX11_isAskAhead_40 (by decide) ?_
      refine r_cs3 dX11_isAskAhead_41 clX11_62 (by first | decide | omega) (Nat.le_of_ble_eq_true rfl) (c_isIn) ⟨Nat.zero_le _, Nat.zero_le _⟩ (fun _ => ?_)
      refine r_if_eq (tgt := 51) dX11_isAskAhead_44 (by decide) (fun h44 => ?_) (fun h44 => ?_)
      · try have h44 := bi_0.mp h44
        refine r_iconst dX11_isAskAhead_51 (by decide) ?_
        refine r_zret dX11_isAskAhead_52 rfl (by omega) ?_
        refine ⟨?_, rfl, rfl⟩; unfold bi; (repeat' split) <;> first | rfl | (exfalso; omega)
      · try have h44 := bi_1.mp h44
        refine r_iconst dX11_isAskAhead_47 (by decide) ?_
        refine r_goto (tgt := 52) dX11_isAskAhead_48 (by decide) ?_
        refine r_zret dX11_isAskAhead_52 rfl (by omega) ?_
        refine ⟨?_, rfl, rfl⟩; unfold bi; (repeat' split) <;> first | rfl | (exfalso; omega)
