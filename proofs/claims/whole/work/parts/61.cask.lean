def bcJ (s : Int) : Int :=
  let i1 := w32 (s - and32 (ushr32 s 1) 1431655765)
  let i2 := w32 (and32 i1 858993459 + and32 (ushr32 i1 2) 858993459)
  let i3 := and32 (w32 (i2 + ushr32 i2 4)) 252645135
  let i4 := w32 (i3 + ushr32 i3 8)
  and32 (w32 (i4 + ushr32 i4 16)) 63
theorem bcJ_a : (List.range 4096).all (fun x => decide (bcJ (x : Int) = (pcn x : Int))) = true := by decide +kernel
theorem bcJ_e {s : Int} (h : 0 ≤ s ∧ s < 4096) : bcJ s = (pcn s.toNat : Int) := by
  have h9 := List.all_eq_true.mp bcJ_a s.toNat (List.mem_range.mpr (by omega))
  have := of_decide_eq_true h9
  rwa [Int.toNat_of_nonneg h.1] at this
theorem c_bitCount {S : Sh} {M : Me} {s : Int} (hs : 0 ≤ s ∧ s < 4096) : Con kJ6_bitCount_0f7a4 0 0 0 [(0, s)] S M (Ex (some (0, (pcn s.toNat : Int))) S M) := by
  refine Con.ofV (al := [(0, s)]) 0 (by decide) (Nat.le_of_ble_eq_true rfl) rfl ?_
  refine r_iload_n dJ6_bitCount_0f7a4_0 rfl ?_
  refine r_iload_n dJ6_bitCount_0f7a4_1 rfl ?_
  refine r_iconst dJ6_bitCount_0f7a4_2 (by decide) ?_
  refine r_iushr dJ6_bitCount_0f7a4_3 rfl ?_
  refine r_ldcw (x := 1431655765) dJ6_bitCount_0f7a4_4 ctJ6_265 (by decide) ?_
  refine r_iand dJ6_bitCount_0f7a4_7 rfl ?_
  refine r_isub dJ6_bitCount_0f7a4_8 rfl ?_
  refine r_istore_n dJ6_bitCount_0f7a4_9 rfl (by decide) st0 ?_
  refine r_iload_n dJ6_bitCount_0f7a4_10 rfl ?_
  refine r_ldcw (x := 858993459) dJ6_bitCount_0f7a4_11 ctJ6_266 (by decide) ?_
  refine r_iand dJ6_bitCount_0f7a4_14 rfl ?_
  refine r_iload_n dJ6_bitCount_0f7a4_15 rfl ?_
  refine r_iconst dJ6_bitCount_0f7a4_16 (by decide) ?_
  refine r_iushr dJ6_bitCount_0f7a4_17 rfl ?_
  refine r_ldcw (x := 858993459) dJ6_bitCount_0f7a4_18 ctJ6_266 (by decide) ?_
  refine r_iand dJ6_bitCount_0f7a4_21 rfl ?_
  refine r_iadd dJ6_bitCount_0f7a4_22 rfl ?_
  refine r_istore_n dJ6_bitCount_0f7a4_23 rfl (by decide) st0 ?_
  refine r_iload_n dJ6_bitCount_0f7a4_24 rfl ?_
  refine r_iload_n dJ6_bitCount_0f7a4_25 rfl ?_
  refine r_iconst dJ6_bitCount_0f7a4_26 (by decide) ?_
  refine r_iushr dJ6_bitCount_0f7a4_27 rfl ?_
  refine r_iadd dJ6_bitCount_0f7a4_28 rfl ?_
  refine r_ldcw (x := 252645135) dJ6_bitCount_0f7a4_29 ctJ6_267 (by decide) ?_
  refine r_iand dJ6_bitCount_0f7a4_32 rfl ?_
  refine r_istore_n dJ6_bitCount_0f7a4_33 rfl (by decide) st0 ?_
  refine r_iload_n dJ6_bitCount_0f7a4_34 rfl ?_
  refine r_iload_n dJ6_bitCount_0f7a4_35 rfl ?_
  refine r_bipush dJ6_bitCount_0f7a4_36 (by decide) (by decide) ?_
  refine r_iushr dJ6_bitCount_0f7a4_38 rfl ?_
  refine r_iadd dJ6_bitCount_0f7a4_39 rfl ?_
  refine r_istore_n dJ6_bitCount_0f7a4_40 rfl (by decide) st0 ?_
  refine r_iload_n dJ6_bitCount_0f7a4_41 rfl ?_
  refine r_iload_n dJ6_bitCount_0f7a4_42 rfl ?_
  refine r_bipush dJ6_bitCount_0f7a4_43 (by decide) (by decide) ?_
  refine r_iushr dJ6_bitCount_0f7a4_45 rfl ?_
  refine r_iadd dJ6_bitCount_0f7a4_46 rfl ?_
  refine r_istore_n dJ6_bitCount_0f7a4_47 rfl (by decide) st0 ?_
  refine r_iload_n dJ6_bitCount_0f7a4_48 rfl ?_
  refine r_bipush dJ6_bitCount_0f7a4_49 (by decide) (by decide) ?_
  refine r_iand dJ6_bitCount_0f7a4_51 rfl ?_
  refine r_iret dJ6_bitCount_0f7a4_52 rfl ?_
  exact ⟨congrArg (fun q => some (0, q)) (bcJ_e hs), rfl, rfl⟩
def akM (M : Me) (X : Int → Int) (n : Int) : Me := up (row1 M 48 64 X) 47 1 n
theorem akM_o {M : Me} {X : Int → Int} {n a j : Int} (h : ¬ (a = 48 ∧ 0 ≤ j ∧ j < 64) ∧ ¬ (a = 47 ∧ j = 1)) : akM M X n a j = M a j := (up_ne h.2).trans (row1_o h.1)
theorem akM_n {M : Me} {X : Int → Int} {n : Int} : akM M X n 47 1 = n := up_eq ⟨rfl, rfl⟩
theorem akM_X {M : Me} {X : Int → Int} {n j z : Int} (h : 0 ≤ j ∧ j < 64) (k : X j = z) : akM M X n 48 j = z := (up_ne (by omega)).trans (rd_rX ⟨rfl, h⟩ k)
theorem akM_id {M : Me} : M = akM M (fun c => M 48 c) (M 47 1) := by
  funext a j
  by_cases h1 : a = 47 ∧ j = 1
  · obtain ⟨rfl, rfl⟩ := h1; exact akM_n.symm
  · by_cases h2 : a = 48 ∧ 0 ≤ j ∧ j < 64
    · obtain ⟨rfl, h2⟩ := h2; exact (akM_X h2 rfl).symm
    · exact (akM_o ⟨h2, h1⟩).symm
theorem akM_un {M : Me} {X : Int → Int} {n m : Int} : up (akM M X n) 47 1 m = akM M X m := by
  funext a j
  by_cases h1 : a = 47 ∧ j = 1
  · rw [up_eq h1]; exact (up_eq h1).symm
  · rw [up_ne h1]; exact (up_ne h1).trans (up_ne h1).symm
theorem akM_uX {M : Me} {X X' : Int → Int} {n y v : Int} (hy : 0 ≤ y ∧ y < 64) (h : ∀ c, 0 ≤ c → c < 64 → X' c = if c = y then v else X c) : up (akM M X n) 48 y v = akM M X' n := by
  funext a j
  by_cases h1 : a = 48 ∧ j = y
  · rw [up_eq h1]; obtain ⟨rfl, rfl⟩ := h1
    exact (akM_X hy (by rw [h j hy.1 hy.2, if_pos rfl])).symm
  · rw [up_ne h1]
    by_cases h2 : a = 48 ∧ 0 ≤ j ∧ j < 64
    · obtain ⟨rfl, h2⟩ := h2
      exact (akM_X h2 rfl).trans (akM_X h2 (by rw [h j h2.1 h2.2, if_neg (fun q => h1 ⟨rfl, q⟩)])).symm
    · by_cases h3 : a = 47 ∧ j = 1
      · obtain ⟨rfl, rfl⟩ := h3; exact akM_n.trans akM_n.symm
      · exact (akM_o ⟨h2, h3⟩).trans (akM_o ⟨h2, h3⟩).symm
def lsV (X : Int → Int) (n : Int) : Int := if n ≤ 0 then 0 else X (n - 1)
def lsN (n : Int) : Int := if n ≤ 0 then n else n - 1
def psX (X : Int → Int) (n v : Int) : Int → Int := if 64 ≤ n then X else upf X n v
def psN (n : Int) : Int := if 64 ≤ n then n else n + 1
theorem lsN_b {n : Int} (h : 0 ≤ n ∧ n ≤ 64) : 0 ≤ lsN n ∧ lsN n ≤ 64 := by unfold lsN; split <;> omega
theorem psN_b {n : Int} (h : 0 ≤ n ∧ n ≤ 64) : 0 ≤ psN n ∧ psN n ≤ 64 := by unfold psN; split <;> omega
theorem c_last {x y z : Int} {M : Me} {X : Int → Int} {n : Int} (hn : 0 ≤ n ∧ n ≤ 64) : Con kX0_last 0 0 0 [(1, 47)] (Sf x y z) (akM M X n) (Ex (some (0, lsV X n)) (Sf x y z) (akM M X (lsN n))) := by
  refine Con.ofV (al := [(1, 47)]) 0 (by decide) (Nat.le_of_ble_eq_true rfl) rfl ?_
  refine r_aload_n dX0_last_0 rfl (by decide) ?_
  refine r_gi 1 dX0_last_1 flX0_15 sf47 (by decide) (by decide) rfl rfl akM_n ?_
  refine r_if_gt (tgt := 9) dX0_last_4 (by decide) (fun h4 => ?_) (fun h4 => ?_)
  · refine r_aload_n dX0_last_9 rfl (by decide) ?_
    refine r_dup dX0_last_10 (Nat.ne_of_beq_eq_false rfl) ?_
    refine r_gi 1 dX0_last_11 flX0_15 sf47 (by decide) (by decide) rfl rfl akM_n ?_
    refine r_iconst dX0_last_14 (by decide) ?_
    refine r_isub dX0_last_15 (w32_id (by omega)) ?_
    refine r_pi 1 dX0_last_16 fpX0_15 sf47 (by decide) (by decide) rfl rfl ?_
    refine V.cm rfl akM_un ?_
    refine r_aload_n dX0_last_19 rfl (by decide) ?_
    refine r_getr (x := 48) dX0_last_20 flX0_9 sf47 (by decide) (by decide) rfl rfl ?_
    refine r_aload_n dX0_last_23 rfl (by decide) ?_
    refine r_gi 1 dX0_last_24 flX0_15 sf47 (by decide) (by decide) rfl rfl akM_n ?_
    refine r_iald dX0_last_27 sf48 (by decide) (by omega) (by omega) (by decide) (akM_X (by omega) rfl) ?_
    refine r_iret dX0_last_28 rfl ?_
    first | exact ⟨by unfold lsV; rw [if_pos (by omega)], rfl, by unfold lsN; rw [if_pos (by omega)]⟩ | exact ⟨by unfold lsV; rw [if_neg (by omega)], rfl, by unfold lsN; rw [if_neg (by omega)]⟩
  · refine r_iconst dX0_last_7 (by decide) ?_
    refine r_iret dX0_last_8 rfl ?_
    first | exact ⟨by unfold lsV; rw [if_pos (by omega)], rfl, by unfold lsN; rw [if_pos (by omega)]⟩ | exact ⟨by unfold lsV; rw [if_neg (by omega)], rfl, by unfold lsN; rw [if_neg (by omega)]⟩
theorem c_put2 {x y z : Int} {M : Me} {X : Int → Int} {n : Int} (hn : 0 ≤ n ∧ n ≤ 64) {v : Int} : Con kX0_put 0 0 0 [(1, 47), (0, v)] (Sf x y z) (akM M X n) (Ex none (Sf x y z) (akM M (psX X n v) (psN n))) := by
  refine Con.ofV (al := [(1, 47), (0, v)]) 0 (by decide) (Nat.le_of_ble_eq_true rfl) rfl ?_
  refine r_aload_n dX0_put_0 rfl (by decide) ?_
  refine r_gi 1 dX0_put_1 flX0_15 sf47 (by decide) (by decide) rfl rfl akM_n ?_
  refine r_aload_n dX0_put_4 rfl (by decide) ?_
  refine r_getr (x := 48) dX0_put_5 flX0_9 sf47 (by decide) (by decide) rfl rfl ?_
  refine r_alen dX0_put_8 sf48 (by decide) (by decide) (by decide) (by decide) rfl ?_
  refine r_icmp_ge (tgt := 32) dX0_put_9 (by decide) (fun h9 => ?_) (fun h9 => ?_)
  · refine r_ret0 dX0_put_32 rfl ?_
    first | exact ⟨rfl, rfl, by unfold psX psN; rw [if_pos (by omega), if_pos (by omega)]⟩ | exact ⟨rfl, rfl, by unfold psX psN; rw [if_neg (by omega), if_neg (by omega)]⟩
  · refine r_aload_n dX0_put_12 rfl (by decide) ?_
    refine r_getr (x := 48) dX0_put_13 flX0_9 sf47 (by decide) (by decide) rfl rfl ?_
    refine r_aload_n dX0_put_16 rfl (by decide) ?_
    refine r_gi 1 dX0_put_17 flX0_15 sf47 (by decide) (by decide) rfl rfl akM_n ?_
    refine r_iload_n dX0_put_20 rfl ?_
    refine r_iast dX0_put_21 sf48 (by decide) (by omega) (by omega) (by decide) rfl ?_
    refine V.cm rfl (akM_uX (X' := upf X n v) (by omega) (fun c _ _ => rfl)) ?_
    refine r_aload_n dX0_put_22 rfl (by decide) ?_
    refine r_dup dX0_put_23 (Nat.ne_of_beq_eq_false rfl) ?_
    refine r_gi 1 dX0_put_24 flX0_15 sf47 (by decide) (by decide) rfl rfl akM_n ?_
    refine r_iconst dX0_put_27 (by decide) ?_
    refine r_iadd dX0_put_28 (w32_id (by omega)) ?_
    refine r_pi 1 dX0_put_29 fpX0_15 sf47 (by decide) (by decide) rfl rfl ?_
    refine V.cm rfl akM_un ?_
    refine r_ret0 dX0_put_32 rfl ?_
    first | exact ⟨rfl, rfl, by unfold psX psN; rw [if_pos (by omega), if_pos (by omega)]⟩ | exact ⟨rfl, rfl, by unfold psX psN; rw [if_neg (by omega), if_neg (by omega)]⟩
def caN (M : Me) (c k : Int) : Int := if k = 25 then M 49 0 else if k = 26 then M 50 0 else if k = 27 then M 209 c else if k = 28 then M 207 (M 209 c) else if k = 29 then M 210 c else if k = 30 then M 53 c else if k = 31 then M 212 c else if k = 32 then M 51 (M 209 c) else (pcn (M 214 c).toNat : Int)
def caD (M : Me) (v : Int) : Int := if 0 ≤ v ∧ v < M 50 3 then M 53 v else 0
theorem c_named {x y z : Int} {M : Me} {k : Int} {c : Int} (hc : 0 ≤ c ∧ c < 12) (h9 : 0 ≤ M 209 c ∧ M 209 c < 5) (hh : 0 ≤ M 214 c ∧ M 214 c < 4096) : Con kX0_named 2 0 0 [(0, k), (1, 49), (0, c)] (Sf x y z) M (Ex (some (0, caN M c k)) (Sf x y z) M) := by
  refine Con.ofV (al := [(0, k), (1, 49), (0, c), (9, 0)]) 1 (by decide) (Nat.le_of_ble_eq_true rfl) rfl ?_
  refine r_aload_n dX0_named_0 rfl (by decide) ?_
  refine r_getr (x := 209) dX0_named_1 flX0_50 sf49 (by decide) (by decide) rfl rfl ?_
  refine r_iload_n dX0_named_4 rfl ?_
  refine r_iald dX0_named_5 sf209 (by decide) (by omega) (by omega) (by decide) rfl ?_
  refine r_istore_n dX0_named_6 rfl (by decide) st3 ?_
  refine r_iload_n dX0_named_7 rfl ?_
  rcases (show (k < 25 ∨ 32 < k) ∨ k = 25 ∨ k = 26 ∨ k = 27 ∨ k = 28 ∨ k = 29 ∨ k = 30 ∨ k = 31 ∨ k = 32 by omega) with hsw | hsw | hsw | hsw | hsw | hsw | hsw | hsw | hsw
  · refine r_tabOut (tgt := 112) dX0_named_8 hsw (by decide) ?_
    refine r_aload_n dX0_named_112 rfl (by decide) ?_
    refine r_getr (x := 214) dX0_named_113 flX0_82 sf49 (by decide) (by decide) rfl rfl ?_
    refine r_iload_n dX0_named_116 rfl ?_
    refine r_iald dX0_named_117 sf214 (by decide) (by omega) (by omega) (by decide) (by first | assumption | ((repeat (first | (apply rd_ne; · omega) | (apply rd_eq; · omega) | (apply rd_out; · omega) | (apply rd_in; · omega))); first | assumption | rfl)) ?_
    refine r_cs1 dX0_named_118 clX0_85 (by first | decide | omega) (Nat.le_of_ble_eq_true rfl) ((c_bitCount hh)) ⟨Nat.zero_le _, Nat.zero_le _⟩ (fun _ => ?_)
    refine r_iret dX0_named_121 rfl ?_
    exact ⟨by unfold caN; rw [if_neg (by omega), if_neg (by omega), if_neg (by omega), if_neg (by omega), if_neg (by omega), if_neg (by omega), if_neg (by omega), if_neg (by omega)], rfl, rfl⟩
  · refine r_tabEq (tgt := 64) dX0_named_8 hsw (by decide) (by decide) rfl (by decide) ?_
    refine r_aload_n dX0_named_64 rfl (by decide) ?_
    refine r_gi 0 dX0_named_65 flX0_64 sf49 (by decide) (by decide) rfl rfl (by first | assumption | ((repeat (first | (apply rd_ne; · omega) | (apply rd_eq; · omega) | (apply rd_out; · omega) | (apply rd_in; · omega))); first | assumption | rfl)) ?_
    refine r_iret dX0_named_68 rfl ?_
    exact ⟨by unfold caN; rw [if_pos (by omega)], rfl, rfl⟩
  · refine r_tabEq (tgt := 56) dX0_named_8 hsw (by decide) (by decide) rfl (by decide) ?_
    refine r_aload_n dX0_named_56 rfl (by decide) ?_
    refine r_getr (x := 50) dX0_named_57 flX0_55 sf49 (by decide) (by decide) rfl rfl ?_
    refine r_gi 0 dX0_named_60 flX0_59 sf50 (by decide) (by decide) rfl rfl (by first | assumption | ((repeat (first | (apply rd_ne; · omega) | (apply rd_eq; · omega) | (apply rd_out; · omega) | (apply rd_in; · omega))); first | assumption | rfl)) ?_
    refine r_iret dX0_named_63 rfl ?_
    exact ⟨by unfold caN; rw [if_neg (by omega), if_pos (by omega)], rfl, rfl⟩
  · refine r_tabEq (tgt := 69) dX0_named_8 hsw (by decide) (by decide) rfl (by decide) ?_
    refine r_iload_n dX0_named_69 rfl ?_
    refine r_iret dX0_named_70 rfl ?_
    exact ⟨by unfold caN; rw [if_neg (by omega), if_neg (by omega), if_pos (by omega)], rfl, rfl⟩
  · refine r_tabEq (tgt := 71) dX0_named_8 hsw (by decide) (by decide) rfl (by decide) ?_
    refine r_aload_n dX0_named_71 rfl (by decide) ?_
    refine r_getr (x := 207) dX0_named_72 flX0_67 sf49 (by decide) (by decide) rfl rfl ?_
    refine r_iload_n dX0_named_75 rfl ?_
    refine r_iald dX0_named_76 sf207 (by decide) (by omega) (by omega) (by decide) (by first | assumption | ((repeat (first | (apply rd_ne; · omega) | (apply rd_eq; · omega) | (apply rd_out; · omega) | (apply rd_in; · omega))); first | assumption | rfl)) ?_
    refine r_iret dX0_named_77 rfl ?_
    exact ⟨by unfold caN; rw [if_neg (by omega), if_neg (by omega), if_neg (by omega), if_pos (by omega)], rfl, rfl⟩
  · refine r_tabEq (tgt := 78) dX0_named_8 hsw (by decide) (by decide) rfl (by decide) ?_
    refine r_aload_n dX0_named_78 rfl (by decide) ?_
    refine r_getr (x := 210) dX0_named_79 flX0_70 sf49 (by decide) (by decide) rfl rfl ?_
    refine r_iload_n dX0_named_82 rfl ?_
    refine r_iald dX0_named_83 sf210 (by decide) (by omega) (by omega) (by decide) (by first | assumption | ((repeat (first | (apply rd_ne; · omega) | (apply rd_eq; · omega) | (apply rd_out; · omega) | (apply rd_in; · omega))); first | assumption | rfl)) ?_
    refine r_iret dX0_named_84 rfl ?_
    exact ⟨by unfold caN; rw [if_neg (by omega), if_neg (by omega), if_neg (by omega), if_neg (by omega), if_pos (by omega)], rfl, rfl⟩
  · refine r_tabEq (tgt := 85) dX0_named_8 hsw (by decide) (by decide) rfl (by decide) ?_
    refine r_aload_n dX0_named_85 rfl (by decide) ?_
    refine r_getr (x := 50) dX0_named_86 flX0_55 sf49 (by decide) (by decide) rfl rfl ?_
    refine r_getr (x := 53) dX0_named_89 flX0_73 sf50 (by decide) (by decide) rfl rfl ?_
    refine r_iload_n dX0_named_92 rfl ?_
    refine r_iald dX0_named_93 sf53 (by decide) (by omega) (by omega) (by decide) (by first | assumption | ((repeat (first | (apply rd_ne; · omega) | (apply rd_eq; · omega) | (apply rd_out; · omega) | (apply rd_in; · omega))); first | assumption | rfl)) ?_
    refine r_iret dX0_named_94 rfl ?_
    exact ⟨by unfold caN; rw [if_neg (by omega), if_neg (by omega), if_neg (by omega), if_neg (by omega), if_neg (by omega), if_pos (by omega)], rfl, rfl⟩
  · refine r_tabEq (tgt := 95) dX0_named_8 hsw (by decide) (by decide) rfl (by decide) ?_
    refine r_aload_n dX0_named_95 rfl (by decide) ?_
    refine r_getr (x := 212) dX0_named_96 flX0_76 sf49 (by decide) (by decide) rfl rfl ?_
    refine r_iload_n dX0_named_99 rfl ?_
    refine r_iald dX0_named_100 sf212 (by decide) (by omega) (by omega) (by decide) (by first | assumption | ((repeat (first | (apply rd_ne; · omega) | (apply rd_eq; · omega) | (apply rd_out; · omega) | (apply rd_in; · omega))); first | assumption | rfl)) ?_
    refine r_iret dX0_named_101 rfl ?_
    exact ⟨by unfold caN; rw [if_neg (by omega), if_neg (by omega), if_neg (by omega), if_neg (by omega), if_neg (by omega), if_neg (by omega), if_pos (by omega)], rfl, rfl⟩
  · refine r_tabEq (tgt := 102) dX0_named_8 hsw (by decide) (by decide) rfl (by decide) ?_
    refine r_aload_n dX0_named_102 rfl (by decide) ?_
    refine r_getr (x := 50) dX0_named_103 flX0_55 sf49 (by decide) (by decide) rfl rfl ?_
    refine r_getr (x := 51) dX0_named_106 flX0_79 sf50 (by decide) (by decide) rfl rfl ?_
    refine r_iload_n dX0_named_109 rfl ?_
    refine r_iald dX0_named_110 sf51 (by decide) (by omega) (by omega) (by decide) (by first | assumption | ((repeat (first | (apply rd_ne; · omega) | (apply rd_eq; · omega) | (apply rd_out; · omega) | (apply rd_in; · omega))); first | assumption | rfl)) ?_
    refine r_iret dX0_named_111 rfl ?_
    exact ⟨by unfold caN; rw [if_neg (by omega), if_neg (by omega), if_neg (by omega), if_neg (by omega), if_neg (by omega), if_neg (by omega), if_neg (by omega), if_pos (by omega)], rfl, rfl⟩
def tbS : Nat → Int → Int → Int
  | 0, _, r => r
  | f + 1, u, r => if 0 < u then tbS f (u / 10) (w32 (w32 (r * 10) + u % 10)) else r
theorem l_turnedAbout {S : Sh} {M : Me} {v R : Int} : ∀ (f : Nat) (u r : Int), 0 ≤ u → u < ten f → f ≤ 12 → u < 2147483648 → tbS f u r = R → V kX0_turnedAbout 0 0 0 none (Ex (some (0, R)) S M) 4 [(0, v), (0, r), (0, u)] [] S M 0 0 := by
  intro f
  induction f with
  | zero =>
    intro u r h0 h1 h2 h3 hR
    have h1 : u < 1 := h1
    refine r_iload_n dX0_turnedAbout_4 rfl ?_
    refine r_if_le (tgt := 26) dX0_turnedAbout_5 (by decide) (fun h5 => ?_) (fun h5 => by exfalso; omega)
    refine r_iload_n dX0_turnedAbout_26 rfl ?_
    refine r_iret dX0_turnedAbout_27 rfl ?_
    exact ⟨by rw [← hR]; rfl, rfl, rfl⟩
  | succ f ih =>
    intro u r h0 h1 h2 h3 hR
    have h1 : u < 10 * ten f := h1
    refine r_iload_n dX0_turnedAbout_4 rfl ?_
    refine r_if_le (tgt := 26) dX0_turnedAbout_5 (by decide) (fun h5 => ?_) (fun h5 => ?_)
    · refine r_iload_n dX0_turnedAbout_26 rfl ?_
      refine r_iret dX0_turnedAbout_27 rfl ?_
      exact ⟨by rw [← hR]; exact congrArg (fun q => some (0, q)) (if_neg (by omega)).symm, rfl, rfl⟩
    · refine r_iload_n dX0_turnedAbout_8 rfl ?_
      refine r_bipush dX0_turnedAbout_9 (by decide) (by decide) ?_
      refine r_imul dX0_turnedAbout_11 rfl ?_
      refine r_iload_n dX0_turnedAbout_12 rfl ?_
      refine r_bipush dX0_turnedAbout_13 (by decide) (by decide) ?_
      refine r_irem dX0_turnedAbout_15 (by omega) (rmn (by omega)) ?_
      refine r_iadd dX0_turnedAbout_16 rfl ?_
      refine r_istore_n dX0_turnedAbout_17 rfl (by decide) st1 ?_
      refine r_iload_n dX0_turnedAbout_18 rfl ?_
      refine r_bipush dX0_turnedAbout_19 (by decide) (by decide) ?_
      refine r_idiv dX0_turnedAbout_21 (by omega) (dvn (by omega) (by omega) (by omega)) ?_
      refine r_istore_n dX0_turnedAbout_22 rfl (by decide) st2 ?_
      refine r_goto (tgt := 4) dX0_turnedAbout_23 (by decide) ?_
      exact ih _ _ (by omega) (by omega) (by omega) (by omega) (by rw [← hR]; exact (if_pos (by omega)).symm)
theorem c_turnedAbout {S : Sh} {M : Me} {v : Int} (hv : v < 2147483648) : Con kX0_turnedAbout 0 0 0 [(0, v)] S M (Ex (some (0, if 0 ≤ v then tbS 10 v 0 else 0)) S M) := by
  refine Con.ofV (al := [(0, v), (9, 0), (9, 0)]) 2 (by decide) (Nat.le_of_ble_eq_true rfl) rfl ?_
  refine r_iconst dX0_turnedAbout_0 (by decide) ?_
  refine r_istore_n dX0_turnedAbout_1 rfl (by decide) st1 ?_
  refine r_iload_n dX0_turnedAbout_2 rfl ?_
  refine r_istore_n dX0_turnedAbout_3 rfl (by decide) st2 ?_
  by_cases h0 : 0 ≤ v
  · rw [if_pos h0]; exact l_turnedAbout 10 v 0 h0 (by rw [show ten 10 = 10000000000 from rfl]; omega) (by decide) hv rfl
  · rw [if_neg h0]
    refine r_iload_n dX0_turnedAbout_4 rfl ?_
    refine r_if_le (tgt := 26) dX0_turnedAbout_5 (by decide) (fun h5 => ?_) (fun h5 => by exfalso; omega)
    refine r_iload_n dX0_turnedAbout_26 rfl ?_
    refine r_iret dX0_turnedAbout_27 rfl ?_
    exact ⟨rfl, rfl, rfl⟩
def kpt (v : Int) : Int := max (-1000000) (min 1000000 v)
theorem kpt_b {v : Int} : -1000000 ≤ kpt v ∧ kpt v ≤ 1000000 := by unfold kpt; omega
def ab1 (v : Int) : Int := if 0 ≤ v then v else w32 (0 - v)
def o1C (dp : Int → Int) (k v : Int) : Int := if k = 41 then bi (v = 0) else if k = 44 then w32 (-v) else if k = 36 then dp v else (if 0 ≤ ab1 v then tbS 10 (ab1 v) 0 else 0)
def o2C (k l r : Int) : Int := if k = 6 then kpt (w32 (l + r)) else if k = 7 then kpt (w32 (l - r)) else if k = 8 then kpt (w64 (l * r)) else if k = 9 then (if r = 0 then 0 else w32 (l.tdiv r)) else if k = 10 then bi (l < r) else if k = 11 then bi (l ≤ r) else if k = 12 then bi (r < l) else if k = 13 then bi (r ≤ l) else if k = 14 then bi (l = r) else if k = 15 then bi (l ≠ r) else if k = 42 then and32 l r else or32 l r
theorem ab1_b {v : Int} (h : -2147483648 ≤ v ∧ v < 2147483648) : ab1 v < 2147483648 := by
  unfold ab1
  split
  · exact h.2
  · exact (w32_in _).2
theorem c_kept2 {S : Sh} {M : Me} {v : Int} : Con kX0_kept 1 0 0 [(2, v)] S M (Ex (some (0, kpt v)) S M) := by
  refine Con.ofV (al := [(2, v), (9, 0)]) 0 (by decide) (Nat.le_of_ble_eq_true rfl) rfl ?_
  refine r_ldc2 (x := -1000000) dX0_kept_0 ctX0_107 (by decide) ?_
  refine r_ldc2 (x := 1000000) dX0_kept_3 ctX0_109 (by decide) ?_
  refine r_lload_n dX0_kept_6 rfl ?_
  refine r_lmin dX0_kept_7 clmX0_111 ma_minL1 ii_Math ma_minL2 (by decide) (Nat.le_of_ble_eq_true rfl) rfl ?_
  refine r_lmax dX0_kept_10 clmX0_115 ma_maxL1 ii_Math ma_maxL2 (by decide) (Nat.le_of_ble_eq_true rfl) rfl ?_
  refine r_l2i dX0_kept_13 (w32_id (by have := kpt_b (v := v); unfold kpt at this; omega)) ?_
  refine r_iret dX0_kept_14 rfl ?_
  exact ⟨rfl, rfl, rfl⟩
theorem c_ofOne {x y z : Int} {M : Me} {k v : Int} (hv : -2147483648 ≤ v ∧ v < 2147483648) (h3 : 0 ≤ M 50 3 ∧ M 50 3 ≤ 12) : Con kX0_ofOne 1 0 0 [(0, k), (0, v), (1, 49)] (Sf x y z) M (Ex (some (0, o1C (caD M) k v)) (Sf x y z) M) := by
  refine Con.ofV (al := [(0, k), (0, v), (1, 49)]) 0 (by decide) (Nat.le_of_ble_eq_true rfl) rfl ?_
  refine r_iload_n dX0_ofOne_0 rfl ?_
  rcases (show (k = 36 ∨ k = 41 ∨ k = 44 ∨ (k ≠ 36 ∧ k ≠ 41 ∧ k ≠ 44)) by omega) with hsw | hsw | hsw | hsw
  · refine r_look (off := 48) (tgt := 49) dX0_ofOne_1 (by decide) (show (if (36 : Int) = k then (48 : Int) else if (41 : Int) = k then (35 : Int) else if (44 : Int) = k then (45 : Int) else (70 : Int)) = _ by rw [if_pos (by omega)]) (by decide) ?_
    refine r_aload_n dX0_ofOne_49 rfl (by decide) ?_
    refine r_iload_n dX0_ofOne_50 rfl ?_
    refine r_cv1 dX0_ofOne_51 clX0_91 sf49 (by decide) (by decide) rfl (by first | decide | omega) (Nat.le_of_ble_eq_true rfl) (s_isCrease) ⟨Nat.zero_le _, Nat.zero_le _⟩ (fun _ => ?_)
    refine r_if_eq (tgt := 69) dX0_ofOne_54 (by decide) (fun h54 => ?_) (fun h54 => ?_)
    · try have h54 := bi_0.mp h54
      refine r_iconst dX0_ofOne_69 (by decide) ?_
      refine r_iret dX0_ofOne_70 rfl ?_
      first | exact ⟨by unfold o1C caD; rw [if_neg (by omega), if_neg (by omega), if_pos (by omega), if_pos (by omega)], rfl, rfl⟩ | exact ⟨by unfold o1C caD; rw [if_neg (by omega), if_neg (by omega), if_pos (by omega), if_neg (by omega)], rfl, rfl⟩
    · try have h54 := bi_1.mp h54
      refine r_aload_n dX0_ofOne_57 rfl (by decide) ?_
      refine r_getr (x := 50) dX0_ofOne_58 flX0_55 sf49 (by decide) (by decide) rfl rfl ?_
      refine r_getr (x := 53) dX0_ofOne_61 flX0_73 sf50 (by decide) (by decide) rfl rfl ?_
      refine r_iload_n dX0_ofOne_64 rfl ?_
      refine r_iald dX0_ofOne_65 sf53 (by decide) (by omega) (by omega) (by decide) (by first | assumption | ((repeat (first | (apply rd_ne; · omega) | (apply rd_eq; · omega) | (apply rd_out; · omega) | (apply rd_in; · omega))); first | assumption | rfl)) ?_
      refine r_goto (tgt := 70) dX0_ofOne_66 (by decide) ?_
      refine r_iret dX0_ofOne_70 rfl ?_
      first | exact ⟨by unfold o1C caD; rw [if_neg (by omega), if_neg (by omega), if_pos (by omega), if_pos (by omega)], rfl, rfl⟩ | exact ⟨by unfold o1C caD; rw [if_neg (by omega), if_neg (by omega), if_pos (by omega), if_neg (by omega)], rfl, rfl⟩
  · refine r_look (off := 35) (tgt := 36) dX0_ofOne_1 (by decide) (show (if (36 : Int) = k then (48 : Int) else if (41 : Int) = k then (35 : Int) else if (44 : Int) = k then (45 : Int) else (70 : Int)) = _ by rw [if_neg (by omega), if_pos (by omega)]) (by decide) ?_
    refine r_iload_n dX0_ofOne_36 rfl ?_
    refine r_if_ne (tgt := 44) dX0_ofOne_37 (by decide) (fun h37 => ?_) (fun h37 => ?_)
    · try have h37 := bi_1.mp h37
      refine r_iconst dX0_ofOne_44 (by decide) ?_
      refine r_iret dX0_ofOne_45 rfl ?_
      first | exact ⟨by unfold o1C bi; rw [if_pos (by omega), if_pos (by omega)], rfl, rfl⟩ | exact ⟨by unfold o1C bi; rw [if_pos (by omega), if_neg (by omega)], rfl, rfl⟩
    · try have h37 := bi_0.mp h37
      refine r_iconst dX0_ofOne_40 (by decide) ?_
      refine r_goto (tgt := 45) dX0_ofOne_41 (by decide) ?_
      refine r_iret dX0_ofOne_45 rfl ?_
      first | exact ⟨by unfold o1C bi; rw [if_pos (by omega), if_pos (by omega)], rfl, rfl⟩ | exact ⟨by unfold o1C bi; rw [if_pos (by omega), if_neg (by omega)], rfl, rfl⟩
  · refine r_look (off := 45) (tgt := 46) dX0_ofOne_1 (by decide) (show (if (36 : Int) = k then (48 : Int) else if (41 : Int) = k then (35 : Int) else if (44 : Int) = k then (45 : Int) else (70 : Int)) = _ by rw [if_neg (by omega), if_neg (by omega), if_pos (by omega)]) (by decide) ?_
    refine r_iload_n dX0_ofOne_46 rfl ?_
    refine r_ineg dX0_ofOne_47 rfl ?_
    refine r_iret dX0_ofOne_48 rfl ?_
    exact ⟨by unfold o1C; rw [if_neg (by omega), if_pos (by omega)], rfl, rfl⟩
  · refine r_look (off := 70) (tgt := 71) dX0_ofOne_1 (by decide) (show (if (36 : Int) = k then (48 : Int) else if (41 : Int) = k then (35 : Int) else if (44 : Int) = k then (45 : Int) else (70 : Int)) = _ by rw [if_neg (by omega), if_neg (by omega), if_neg (by omega)]) (by decide) ?_
    refine r_iload_n dX0_ofOne_71 rfl ?_
    refine r_mabs dX0_ofOne_72 clmX0_95 ma_abs1 ii_Math ma_abs2 (by decide) (Nat.le_of_ble_eq_true rfl) (show _ = ab1 v from rfl) ?_
    refine r_cs1 dX0_ofOne_75 clX0_100 (by first | decide | omega) (Nat.le_of_ble_eq_true rfl) ((c_turnedAbout (ab1_b hv))) ⟨Nat.zero_le _, Nat.zero_le _⟩ (fun _ => ?_)
    refine r_iret dX0_ofOne_78 rfl ?_
    exact ⟨congrArg (fun q => some ((0 : Nat), q)) ((if_neg (by omega)).trans ((if_neg (by omega)).trans (if_neg (by omega)))).symm, rfl, rfl⟩
set_option maxHeartbeats 1000000 in
theorem c_ofTwo {S : Sh} {M : Me} {k l r : Int} : Con kX0_ofTwo 2 0 0 [(0, k), (0, l), (0, r)] S M (Ex (some (0, o2C k l r)) S M) := by
  refine Con.ofV (al := [(0, k), (0, l), (0, r)]) 0 (by decide) (Nat.le_of_ble_eq_true rfl) rfl ?_
  refine r_iload_n dX0_ofTwo_0 rfl ?_
  rcases (show (k < 6 ∨ 42 < k) ∨ k = 6 ∨ k = 7 ∨ k = 8 ∨ k = 9 ∨ k = 10 ∨ k = 11 ∨ k = 12 ∨ k = 13 ∨ k = 14 ∨ k = 15 ∨ k = 16 ∨ k = 17 ∨ k = 18 ∨ k = 19 ∨ k = 20 ∨ k = 21 ∨ k = 22 ∨ k = 23 ∨ k = 24 ∨ k = 25 ∨ k = 26 ∨ k = 27 ∨ k = 28 ∨ k = 29 ∨ k = 30 ∨ k = 31 ∨ k = 32 ∨ k = 33 ∨ k = 34 ∨ k = 35 ∨ k = 36 ∨ k = 37 ∨ k = 38 ∨ k = 39 ∨ k = 40 ∨ k = 41 ∨ k = 42 by omega) with hsw | hsw | hsw | hsw | hsw | hsw | hsw | hsw | hsw | hsw | hsw | hsw | hsw | hsw | hsw | hsw | hsw | hsw | hsw | hsw | hsw | hsw | hsw | hsw | hsw | hsw | hsw | hsw | hsw | hsw | hsw | hsw | hsw | hsw | hsw | hsw | hsw | hsw
  · refine r_tabOut (tgt := 271) dX0_ofTwo_1 hsw (by decide) ?_
    refine r_iload_n dX0_ofTwo_271 rfl ?_
    refine r_iload_n dX0_ofTwo_272 rfl ?_
    refine r_ior dX0_ofTwo_273 rfl ?_
    refine r_iret dX0_ofTwo_274 rfl ?_
    exact ⟨by unfold o2C; rw [if_neg (by omega), if_neg (by omega), if_neg (by omega), if_neg (by omega), if_neg (by omega), if_neg (by omega), if_neg (by omega), if_neg (by omega), if_neg (by omega), if_neg (by omega), if_neg (by omega)], rfl, rfl⟩
  · refine r_tabEq (tgt := 164) dX0_ofTwo_1 hsw (by decide) (by decide) rfl (by decide) ?_
    refine r_iload_n dX0_ofTwo_164 rfl ?_
    refine r_iload_n dX0_ofTwo_165 rfl ?_
    refine r_iadd dX0_ofTwo_166 rfl ?_
    refine r_i2l dX0_ofTwo_167 ?_
    refine r_cs1 dX0_ofTwo_168 clX0_103 (by first | decide | omega) (Nat.le_of_ble_eq_true rfl) (c_kept2) ⟨Nat.zero_le _, Nat.zero_le _⟩ (fun _ => ?_)
    refine r_iret dX0_ofTwo_171 rfl ?_
    exact ⟨by unfold o2C; rw [if_pos (by omega)], rfl, rfl⟩
  · refine r_tabEq (tgt := 172) dX0_ofTwo_1 hsw (by decide) (by decide) rfl (by decide) ?_
    refine r_iload_n dX0_ofTwo_172 rfl ?_
    refine r_iload_n dX0_ofTwo_173 rfl ?_
    refine r_isub dX0_ofTwo_174 rfl ?_
    refine r_i2l dX0_ofTwo_175 ?_
    refine r_cs1 dX0_ofTwo_176 clX0_103 (by first | decide | omega) (Nat.le_of_ble_eq_true rfl) (c_kept2) ⟨Nat.zero_le _, Nat.zero_le _⟩ (fun _ => ?_)
    refine r_iret dX0_ofTwo_179 rfl ?_
    exact ⟨by unfold o2C; rw [if_neg (by omega), if_pos (by omega)], rfl, rfl⟩
  · refine r_tabEq (tgt := 180) dX0_ofTwo_1 hsw (by decide) (by decide) rfl (by decide) ?_
    refine r_iload_n dX0_ofTwo_180 rfl ?_
    refine r_i2l dX0_ofTwo_181 ?_
    refine r_iload_n dX0_ofTwo_182 rfl ?_
    refine r_i2l dX0_ofTwo_183 ?_
    refine r_lmul dX0_ofTwo_184 rfl ?_
    refine r_cs1 dX0_ofTwo_185 clX0_103 (by first | decide | omega) (Nat.le_of_ble_eq_true rfl) (c_kept2) ⟨Nat.zero_le _, Nat.zero_le _⟩ (fun _ => ?_)
    refine r_iret dX0_ofTwo_188 rfl ?_
    exact ⟨by unfold o2C; rw [if_neg (by omega), if_neg (by omega), if_pos (by omega)], rfl, rfl⟩
  · refine r_tabEq (tgt := 189) dX0_ofTwo_1 hsw (by decide) (by decide) rfl (by decide) ?_
    refine r_iload_n dX0_ofTwo_189 rfl ?_
    refine r_if_ne (tgt := 197) dX0_ofTwo_190 (by decide) (fun h190 => ?_) (fun h190 => ?_)
    · try have h190 := bi_1.mp h190
      refine r_iload_n dX0_ofTwo_197 rfl ?_
      refine r_iload_n dX0_ofTwo_198 rfl ?_
      refine r_idiv dX0_ofTwo_199 (by omega) rfl ?_
      refine r_iret dX0_ofTwo_200 rfl ?_
      first | exact ⟨by unfold o2C; rw [if_neg (by omega), if_neg (by omega), if_neg (by omega), if_pos (by omega), if_pos (by omega)], rfl, rfl⟩ | exact ⟨by unfold o2C; rw [if_neg (by omega), if_neg (by omega), if_neg (by omega), if_pos (by omega), if_neg (by omega)], rfl, rfl⟩
    · try have h190 := bi_0.mp h190
      refine r_iconst dX0_ofTwo_193 (by decide) ?_
      refine r_goto (tgt := 200) dX0_ofTwo_194 (by decide) ?_
      refine r_iret dX0_ofTwo_200 rfl ?_
      first | exact ⟨by unfold o2C; rw [if_neg (by omega), if_neg (by omega), if_neg (by omega), if_pos (by omega), if_pos (by omega)], rfl, rfl⟩ | exact ⟨by unfold o2C; rw [if_neg (by omega), if_neg (by omega), if_neg (by omega), if_pos (by omega), if_neg (by omega)], rfl, rfl⟩
  · refine r_tabEq (tgt := 201) dX0_ofTwo_1 hsw (by decide) (by decide) rfl (by decide) ?_
    refine r_iload_n dX0_ofTwo_201 rfl ?_
    refine r_iload_n dX0_ofTwo_202 rfl ?_
    refine r_icmp_ge (tgt := 210) dX0_ofTwo_203 (by decide) (fun h203 => ?_) (fun h203 => ?_)
    · refine r_iconst dX0_ofTwo_210 (by decide) ?_
      refine r_iret dX0_ofTwo_211 rfl ?_
      first | exact ⟨by unfold o2C bi; rw [if_neg (by omega), if_neg (by omega), if_neg (by omega), if_neg (by omega), if_pos (by omega), if_pos (by omega)], rfl, rfl⟩ | exact ⟨by unfold o2C bi; rw [if_neg (by omega), if_neg (by omega), if_neg (by omega), if_neg (by omega), if_pos (by omega), if_neg (by omega)], rfl, rfl⟩
    · refine r_iconst dX0_ofTwo_206 (by decide) ?_
      refine r_goto (tgt := 211) dX0_ofTwo_207 (by decide) ?_
      refine r_iret dX0_ofTwo_211 rfl ?_
      first | exact ⟨by unfold o2C bi; rw [if_neg (by omega), if_neg (by omega), if_neg (by omega), if_neg (by omega), if_pos (by omega), if_pos (by omega)], rfl, rfl⟩ | exact ⟨by unfold o2C bi; rw [if_neg (by omega), if_neg (by omega), if_neg (by omega), if_neg (by omega), if_pos (by omega), if_neg (by omega)], rfl, rfl⟩
  · refine r_tabEq (tgt := 212) dX0_ofTwo_1 hsw (by decide) (by decide) rfl (by decide) ?_
    refine r_iload_n dX0_ofTwo_212 rfl ?_
    refine r_iload_n dX0_ofTwo_213 rfl ?_
    refine r_icmp_gt (tgt := 221) dX0_ofTwo_214 (by decide) (fun h214 => ?_) (fun h214 => ?_)
    · refine r_iconst dX0_ofTwo_221 (by decide) ?_
      refine r_iret dX0_ofTwo_222 rfl ?_
      first | exact ⟨by unfold o2C bi; rw [if_neg (by omega), if_neg (by omega), if_neg (by omega), if_neg (by omega), if_neg (by omega), if_pos (by omega), if_pos (by omega)], rfl, rfl⟩ | exact ⟨by unfold o2C bi; rw [if_neg (by omega), if_neg (by omega), if_neg (by omega), if_neg (by omega), if_neg (by omega), if_pos (by omega), if_neg (by omega)], rfl, rfl⟩
    · refine r_iconst dX0_ofTwo_217 (by decide) ?_
      refine r_goto (tgt := 222) dX0_ofTwo_218 (by decide) ?_
      refine r_iret dX0_ofTwo_222 rfl ?_
      first | exact ⟨by unfold o2C bi; rw [if_neg (by omega), if_neg (by omega), if_neg (by omega), if_neg (by omega), if_neg (by omega), if_pos (by omega), if_pos (by omega)], rfl, rfl⟩ | exact ⟨by unfold o2C bi; rw [if_neg (by omega), if_neg (by omega), if_neg (by omega), if_neg (by omega), if_neg (by omega), if_pos (by omega), if_neg (by omega)], rfl, rfl⟩
  · refine r_tabEq (tgt := 223) dX0_ofTwo_1 hsw (by decide) (by decide) rfl (by decide) ?_
    refine r_iload_n dX0_ofTwo_223 rfl ?_
    refine r_iload_n dX0_ofTwo_224 rfl ?_
    refine r_icmp_le (tgt := 232) dX0_ofTwo_225 (by decide) (fun h225 => ?_) (fun h225 => ?_)
    · refine r_iconst dX0_ofTwo_232 (by decide) ?_
      refine r_iret dX0_ofTwo_233 rfl ?_
      first | exact ⟨by unfold o2C bi; rw [if_neg (by omega), if_neg (by omega), if_neg (by omega), if_neg (by omega), if_neg (by omega), if_neg (by omega), if_pos (by omega), if_pos (by omega)], rfl, rfl⟩ | exact ⟨by unfold o2C bi; rw [if_neg (by omega), if_neg (by omega), if_neg (by omega), if_neg (by omega), if_neg (by omega), if_neg (by omega), if_pos (by omega), if_neg (by omega)], rfl, rfl⟩
    · refine r_iconst dX0_ofTwo_228 (by decide) ?_
      refine r_goto (tgt := 233) dX0_ofTwo_229 (by decide) ?_
      refine r_iret dX0_ofTwo_233 rfl ?_
      first | exact ⟨by unfold o2C bi; rw [if_neg (by omega), if_neg (by omega), if_neg (by omega), if_neg (by omega), if_neg (by omega), if_neg (by omega), if_pos (by omega), if_pos (by omega)], rfl, rfl⟩ | exact ⟨by unfold o2C bi; rw [if_neg (by omega), if_neg (by omega), if_neg (by omega), if_neg (by omega), if_neg (by omega), if_neg (by omega), if_pos (by omega), if_neg (by omega)], rfl, rfl⟩
  · refine r_tabEq (tgt := 234) dX0_ofTwo_1 hsw (by decide) (by decide) rfl (by decide) ?_
    refine r_iload_n dX0_ofTwo_234 rfl ?_
    refine r_iload_n dX0_ofTwo_235 rfl ?_
    refine r_icmp_lt (tgt := 243) dX0_ofTwo_236 (by decide) (fun h236 => ?_) (fun h236 => ?_)
    · refine r_iconst dX0_ofTwo_243 (by decide) ?_
      refine r_iret dX0_ofTwo_244 rfl ?_
      first | exact ⟨by unfold o2C bi; rw [if_neg (by omega), if_neg (by omega), if_neg (by omega), if_neg (by omega), if_neg (by omega), if_neg (by omega), if_neg (by omega), if_pos (by omega), if_pos (by omega)], rfl, rfl⟩ | exact ⟨by unfold o2C bi; rw [if_neg (by omega), if_neg (by omega), if_neg (by omega), if_neg (by omega), if_neg (by omega), if_neg (by omega), if_neg (by omega), if_pos (by omega), if_neg (by omega)], rfl, rfl⟩
    · refine r_iconst dX0_ofTwo_239 (by decide) ?_
      refine r_goto (tgt := 244) dX0_ofTwo_240 (by decide) ?_
      refine r_iret dX0_ofTwo_244 rfl ?_
      first | exact ⟨by unfold o2C bi; rw [if_neg (by omega), if_neg (by omega), if_neg (by omega), if_neg (by omega), if_neg (by omega), if_neg (by omega), if_neg (by omega), if_pos (by omega), if_pos (by omega)], rfl, rfl⟩ | exact ⟨by unfold o2C bi; rw [if_neg (by omega), if_neg (by omega), if_neg (by omega), if_neg (by omega), if_neg (by omega), if_neg (by omega), if_neg (by omega), if_pos (by omega), if_neg (by omega)], rfl, rfl⟩
  · refine r_tabEq (tgt := 245) dX0_ofTwo_1 hsw (by decide) (by decide) rfl (by decide) ?_
    refine r_iload_n dX0_ofTwo_245 rfl ?_
    refine r_iload_n dX0_ofTwo_246 rfl ?_
    refine r_icmp_ne (tgt := 254) dX0_ofTwo_247 (by decide) (fun h247 => ?_) (fun h247 => ?_)
    · refine r_iconst dX0_ofTwo_254 (by decide) ?_
      refine r_iret dX0_ofTwo_255 rfl ?_
      first | exact ⟨by unfold o2C bi; rw [if_neg (by omega), if_neg (by omega), if_neg (by omega), if_neg (by omega), if_neg (by omega), if_neg (by omega), if_neg (by omega), if_neg (by omega), if_pos (by omega), if_pos (by omega)], rfl, rfl⟩ | exact ⟨by unfold o2C bi; rw [if_neg (by omega), if_neg (by omega), if_neg (by omega), if_neg (by omega), if_neg (by omega), if_neg (by omega), if_neg (by omega), if_neg (by omega), if_pos (by omega), if_neg (by omega)], rfl, rfl⟩
    · refine r_iconst dX0_ofTwo_250 (by decide) ?_
      refine r_goto (tgt := 255) dX0_ofTwo_251 (by decide) ?_
      refine r_iret dX0_ofTwo_255 rfl ?_
      first | exact ⟨by unfold o2C bi; rw [if_neg (by omega), if_neg (by omega), if_neg (by omega), if_neg (by omega), if_neg (by omega), if_neg (by omega), if_neg (by omega), if_neg (by omega), if_pos (by omega), if_pos (by omega)], rfl, rfl⟩ | exact ⟨by unfold o2C bi; rw [if_neg (by omega), if_neg (by omega), if_neg (by omega), if_neg (by omega), if_neg (by omega), if_neg (by omega), if_neg (by omega), if_neg (by omega), if_pos (by omega), if_neg (by omega)], rfl, rfl⟩
  · refine r_tabEq (tgt := 256) dX0_ofTwo_1 hsw (by decide) (by decide) rfl (by decide) ?_
    refine r_iload_n dX0_ofTwo_256 rfl ?_
    refine r_iload_n dX0_ofTwo_257 rfl ?_
    refine r_icmp_eq (tgt := 265) dX0_ofTwo_258 (by decide) (fun h258 => ?_) (fun h258 => ?_)
    · refine r_iconst dX0_ofTwo_265 (by decide) ?_
      refine r_iret dX0_ofTwo_266 rfl ?_
      first | exact ⟨by unfold o2C bi; rw [if_neg (by omega), if_neg (by omega), if_neg (by omega), if_neg (by omega), if_neg (by omega), if_neg (by omega), if_neg (by omega), if_neg (by omega), if_neg (by omega), if_pos (by omega), if_pos (by omega)], rfl, rfl⟩ | exact ⟨by unfold o2C bi; rw [if_neg (by omega), if_neg (by omega), if_neg (by omega), if_neg (by omega), if_neg (by omega), if_neg (by omega), if_neg (by omega), if_neg (by omega), if_neg (by omega), if_pos (by omega), if_neg (by omega)], rfl, rfl⟩
    · refine r_iconst dX0_ofTwo_261 (by decide) ?_
      refine r_goto (tgt := 266) dX0_ofTwo_262 (by decide) ?_
      refine r_iret dX0_ofTwo_266 rfl ?_
      first | exact ⟨by unfold o2C bi; rw [if_neg (by omega), if_neg (by omega), if_neg (by omega), if_neg (by omega), if_neg (by omega), if_neg (by omega), if_neg (by omega), if_neg (by omega), if_neg (by omega), if_pos (by omega), if_pos (by omega)], rfl, rfl⟩ | exact ⟨by unfold o2C bi; rw [if_neg (by omega), if_neg (by omega), if_neg (by omega), if_neg (by omega), if_neg (by omega), if_neg (by omega), if_neg (by omega), if_neg (by omega), if_neg (by omega), if_pos (by omega), if_neg (by omega)], rfl, rfl⟩
  · refine r_tabEq (tgt := 271) dX0_ofTwo_1 hsw (by decide) (by decide) rfl (by decide) ?_
    refine r_iload_n dX0_ofTwo_271 rfl ?_
    refine r_iload_n dX0_ofTwo_272 rfl ?_
    refine r_ior dX0_ofTwo_273 rfl ?_
    refine r_iret dX0_ofTwo_274 rfl ?_
    exact ⟨by unfold o2C; rw [if_neg (by omega), if_neg (by omega), if_neg (by omega), if_neg (by omega), if_neg (by omega), if_neg (by omega), if_neg (by omega), if_neg (by omega), if_neg (by omega), if_neg (by omega), if_neg (by omega)], rfl, rfl⟩
  · refine r_tabEq (tgt := 271) dX0_ofTwo_1 hsw (by decide) (by decide) rfl (by decide) ?_
    refine r_iload_n dX0_ofTwo_271 rfl ?_
    refine r_iload_n dX0_ofTwo_272 rfl ?_
    refine r_ior dX0_ofTwo_273 rfl ?_
    refine r_iret dX0_ofTwo_274 rfl ?_
    exact ⟨by unfold o2C; rw [if_neg (by omega), if_neg (by omega), if_neg (by omega), if_neg (by omega), if_neg (by omega), if_neg (by omega), if_neg (by omega), if_neg (by omega), if_neg (by omega), if_neg (by omega), if_neg (by omega)], rfl, rfl⟩
  · refine r_tabEq (tgt := 271) dX0_ofTwo_1 hsw (by decide) (by decide) rfl (by decide) ?_
    refine r_iload_n dX0_ofTwo_271 rfl ?_
    refine r_iload_n dX0_ofTwo_272 rfl ?_
    refine r_ior dX0_ofTwo_273 rfl ?_
    refine r_iret dX0_ofTwo_274 rfl ?_
    exact ⟨by unfold o2C; rw [if_neg (by omega), if_neg (by omega), if_neg (by omega), if_neg (by omega), if_neg (by omega), if_neg (by omega), if_neg (by omega), if_neg (by omega), if_neg (by omega), if_neg (by omega), if_neg (by omega)], rfl, rfl⟩
  · refine r_tabEq (tgt := 271) dX0_ofTwo_1 hsw (by decide) (by decide) rfl (by decide) ?_
    refine r_iload_n dX0_ofTwo_271 rfl ?_
    refine r_iload_n dX0_ofTwo_272 rfl ?_
    refine r_ior dX0_ofTwo_273 rfl ?_
    refine r_iret dX0_ofTwo_274 rfl ?_
    exact ⟨by unfold o2C; rw [if_neg (by omega), if_neg (by omega), if_neg (by omega), if_neg (by omega), if_neg (by omega), if_neg (by omega), if_neg (by omega), if_neg (by omega), if_neg (by omega), if_neg (by omega), if_neg (by omega)], rfl, rfl⟩
  · refine r_tabEq (tgt := 271) dX0_ofTwo_1 hsw (by decide) (by decide) rfl (by decide) ?_
    refine r_iload_n dX0_ofTwo_271 rfl ?_
    refine r_iload_n dX0_ofTwo_272 rfl ?_
    refine r_ior dX0_ofTwo_273 rfl ?_
    refine r_iret dX0_ofTwo_274 rfl ?_
    exact ⟨by unfold o2C; rw [if_neg (by omega), if_neg (by omega), if_neg (by omega), if_neg (by omega), if_neg (by omega), if_neg (by omega), if_neg (by omega), if_neg (by omega), if_neg (by omega), if_neg (by omega), if_neg (by omega)], rfl, rfl⟩
  · refine r_tabEq (tgt := 271) dX0_ofTwo_1 hsw (by decide) (by decide) rfl (by decide) ?_
    refine r_iload_n dX0_ofTwo_271 rfl ?_
    refine r_iload_n dX0_ofTwo_272 rfl ?_
    refine r_ior dX0_ofTwo_273 rfl ?_
    refine r_iret dX0_ofTwo_274 rfl ?_
    exact ⟨by unfold o2C; rw [if_neg (by omega), if_neg (by omega), if_neg (by omega), if_neg (by omega), if_neg (by omega), if_neg (by omega), if_neg (by omega), if_neg (by omega), if_neg (by omega), if_neg (by omega), if_neg (by omega)], rfl, rfl⟩
  · refine r_tabEq (tgt := 271) dX0_ofTwo_1 hsw (by decide) (by decide) rfl (by decide) ?_
    refine r_iload_n dX0_ofTwo_271 rfl ?_
    refine r_iload_n dX0_ofTwo_272 rfl ?_
    refine r_ior dX0_ofTwo_273 rfl ?_
    refine r_iret dX0_ofTwo_274 rfl ?_
    exact ⟨by unfold o2C; rw [if_neg (by omega), if_neg (by omega), if_neg (by omega), if_neg (by omega), if_neg (by omega), if_neg (by omega), if_neg (by omega), if_neg (by omega), if_neg (by omega), if_neg (by omega), if_neg (by omega)], rfl, rfl⟩
  · refine r_tabEq (tgt := 271) dX0_ofTwo_1 hsw (by decide) (by decide) rfl (by decide) ?_
    refine r_iload_n dX0_ofTwo_271 rfl ?_
    refine r_iload_n dX0_ofTwo_272 rfl ?_
    refine r_ior dX0_ofTwo_273 rfl ?_
    refine r_iret dX0_ofTwo_274 rfl ?_
    exact ⟨by unfold o2C; rw [if_neg (by omega), if_neg (by omega), if_neg (by omega), if_neg (by omega), if_neg (by omega), if_neg (by omega), if_neg (by omega), if_neg (by omega), if_neg (by omega), if_neg (by omega), if_neg (by omega)], rfl, rfl⟩
  · refine r_tabEq (tgt := 271) dX0_ofTwo_1 hsw (by decide) (by decide) rfl (by decide) ?_
    refine r_iload_n dX0_ofTwo_271 rfl ?_
    refine r_iload_n dX0_ofTwo_272 rfl ?_
    refine r_ior dX0_ofTwo_273 rfl ?_
    refine r_iret dX0_ofTwo_274 rfl ?_
    exact ⟨by unfold o2C; rw [if_neg (by omega), if_neg (by omega), if_neg (by omega), if_neg (by omega), if_neg (by omega), if_neg (by omega), if_neg (by omega), if_neg (by omega), if_neg (by omega), if_neg (by omega), if_neg (by omega)], rfl, rfl⟩
  · refine r_tabEq (tgt := 271) dX0_ofTwo_1 hsw (by decide) (by decide) rfl (by decide) ?_
    refine r_iload_n dX0_ofTwo_271 rfl ?_
    refine r_iload_n dX0_ofTwo_272 rfl ?_
    refine r_ior dX0_ofTwo_273 rfl ?_
    refine r_iret dX0_ofTwo_274 rfl ?_
    exact ⟨by unfold o2C; rw [if_neg (by omega), if_neg (by omega), if_neg (by omega), if_neg (by omega), if_neg (by omega), if_neg (by omega), if_neg (by omega), if_neg (by omega), if_neg (by omega), if_neg (by omega), if_neg (by omega)], rfl, rfl⟩
  · refine r_tabEq (tgt := 271) dX0_ofTwo_1 hsw (by decide) (by decide) rfl (by decide) ?_
    refine r_iload_n dX0_ofTwo_271 rfl ?_
    refine r_iload_n dX0_ofTwo_272 rfl ?_
    refine r_ior dX0_ofTwo_273 rfl ?_
    refine r_iret dX0_ofTwo_274 rfl ?_
    exact ⟨by unfold o2C; rw [if_neg (by omega), if_neg (by omega), if_neg (by omega), if_neg (by omega), if_neg (by omega), if_neg (by omega), if_neg (by omega), if_neg (by omega), if_neg (by omega), if_neg (by omega), if_neg (by omega)], rfl, rfl⟩
  · refine r_tabEq (tgt := 271) dX0_ofTwo_1 hsw (by decide) (by decide) rfl (by decide) ?_
    refine r_iload_n dX0_ofTwo_271 rfl ?_
    refine r_iload_n dX0_ofTwo_272 rfl ?_
    refine r_ior dX0_ofTwo_273 rfl ?_
    refine r_iret dX0_ofTwo_274 rfl ?_
    exact ⟨by unfold o2C; rw [if_neg (by omega), if_neg (by omega), if_neg (by omega), if_neg (by omega), if_neg (by omega), if_neg (by omega), if_neg (by omega), if_neg (by omega), if_neg (by omega), if_neg (by omega), if_neg (by omega)], rfl, rfl⟩
  · refine r_tabEq (tgt := 271) dX0_ofTwo_1 hsw (by decide) (by decide) rfl (by decide) ?_
    refine r_iload_n dX0_ofTwo_271 rfl ?_
    refine r_iload_n dX0_ofTwo_272 rfl ?_
    refine r_ior dX0_ofTwo_273 rfl ?_
    refine r_iret dX0_ofTwo_274 rfl ?_
    exact ⟨by unfold o2C; rw [if_neg (by omega), if_neg (by omega), if_neg (by omega), if_neg (by omega), if_neg (by omega), if_neg (by omega), if_neg (by omega), if_neg (by omega), if_neg (by omega), if_neg (by omega), if_neg (by omega)], rfl, rfl⟩
  · refine r_tabEq (tgt := 271) dX0_ofTwo_1 hsw (by decide) (by decide) rfl (by decide) ?_
    refine r_iload_n dX0_ofTwo_271 rfl ?_
    refine r_iload_n dX0_ofTwo_272 rfl ?_
    refine r_ior dX0_ofTwo_273 rfl ?_
    refine r_iret dX0_ofTwo_274 rfl ?_
    exact ⟨by unfold o2C; rw [if_neg (by omega), if_neg (by omega), if_neg (by omega), if_neg (by omega), if_neg (by omega), if_neg (by omega), if_neg (by omega), if_neg (by omega), if_neg (by omega), if_neg (by omega), if_neg (by omega)], rfl, rfl⟩
  · refine r_tabEq (tgt := 271) dX0_ofTwo_1 hsw (by decide) (by decide) rfl (by decide) ?_
    refine r_iload_n dX0_ofTwo_271 rfl ?_
    refine r_iload_n dX0_ofTwo_272 rfl ?_
    refine r_ior dX0_ofTwo_273 rfl ?_
    refine r_iret dX0_ofTwo_274 rfl ?_
    exact ⟨by unfold o2C; rw [if_neg (by omega), if_neg (by omega), if_neg (by omega), if_neg (by omega), if_neg (by omega), if_neg (by omega), if_neg (by omega), if_neg (by omega), if_neg (by omega), if_neg (by omega), if_neg (by omega)], rfl, rfl⟩
  · refine r_tabEq (tgt := 271) dX0_ofTwo_1 hsw (by decide) (by decide) rfl (by decide) ?_
    refine r_iload_n dX0_ofTwo_271 rfl ?_
    refine r_iload_n dX0_ofTwo_272 rfl ?_
    refine r_ior dX0_ofTwo_273 rfl ?_
    refine r_iret dX0_ofTwo_274 rfl ?_
    exact ⟨by unfold o2C; rw [if_neg (by omega), if_neg (by omega), if_neg (by omega), if_neg (by omega), if_neg (by omega), if_neg (by omega), if_neg (by omega), if_neg (by omega), if_neg (by omega), if_neg (by omega), if_neg (by omega)], rfl, rfl⟩
  · refine r_tabEq (tgt := 271) dX0_ofTwo_1 hsw (by decide) (by decide) rfl (by decide) ?_
    refine r_iload_n dX0_ofTwo_271 rfl ?_
    refine r_iload_n dX0_ofTwo_272 rfl ?_
    refine r_ior dX0_ofTwo_273 rfl ?_
    refine r_iret dX0_ofTwo_274 rfl ?_
    exact ⟨by unfold o2C; rw [if_neg (by omega), if_neg (by omega), if_neg (by omega), if_neg (by omega), if_neg (by omega), if_neg (by omega), if_neg (by omega), if_neg (by omega), if_neg (by omega), if_neg (by omega), if_neg (by omega)], rfl, rfl⟩
  · refine r_tabEq (tgt := 271) dX0_ofTwo_1 hsw (by decide) (by decide) rfl (by decide) ?_
    refine r_iload_n dX0_ofTwo_271 rfl ?_
    refine r_iload_n dX0_ofTwo_272 rfl ?_
    refine r_ior dX0_ofTwo_273 rfl ?_
    refine r_iret dX0_ofTwo_274 rfl ?_
    exact ⟨by unfold o2C; rw [if_neg (by omega), if_neg (by omega), if_neg (by omega), if_neg (by omega), if_neg (by omega), if_neg (by omega), if_neg (by omega), if_neg (by omega), if_neg (by omega), if_neg (by omega), if_neg (by omega)], rfl, rfl⟩
  · refine r_tabEq (tgt := 271) dX0_ofTwo_1 hsw (by decide) (by decide) rfl (by decide) ?_
    refine r_iload_n dX0_ofTwo_271 rfl ?_
    refine r_iload_n dX0_ofTwo_272 rfl ?_
    refine r_ior dX0_ofTwo_273 rfl ?_
    refine r_iret dX0_ofTwo_274 rfl ?_
    exact ⟨by unfold o2C; rw [if_neg (by omega), if_neg (by omega), if_neg (by omega), if_neg (by omega), if_neg (by omega), if_neg (by omega), if_neg (by omega), if_neg (by omega), if_neg (by omega), if_neg (by omega), if_neg (by omega)], rfl, rfl⟩
  · refine r_tabEq (tgt := 271) dX0_ofTwo_1 hsw (by decide) (by decide) rfl (by decide) ?_
    refine r_iload_n dX0_ofTwo_271 rfl ?_
    refine r_iload_n dX0_ofTwo_272 rfl ?_
    refine r_ior dX0_ofTwo_273 rfl ?_
    refine r_iret dX0_ofTwo_274 rfl ?_
    exact ⟨by unfold o2C; rw [if_neg (by omega), if_neg (by omega), if_neg (by omega), if_neg (by omega), if_neg (by omega), if_neg (by omega), if_neg (by omega), if_neg (by omega), if_neg (by omega), if_neg (by omega), if_neg (by omega)], rfl, rfl⟩
  · refine r_tabEq (tgt := 271) dX0_ofTwo_1 hsw (by decide) (by decide) rfl (by decide) ?_
    refine r_iload_n dX0_ofTwo_271 rfl ?_
    refine r_iload_n dX0_ofTwo_272 rfl ?_
    refine r_ior dX0_ofTwo_273 rfl ?_
    refine r_iret dX0_ofTwo_274 rfl ?_
    exact ⟨by unfold o2C; rw [if_neg (by omega), if_neg (by omega), if_neg (by omega), if_neg (by omega), if_neg (by omega), if_neg (by omega), if_neg (by omega), if_neg (by omega), if_neg (by omega), if_neg (by omega), if_neg (by omega)], rfl, rfl⟩
  · refine r_tabEq (tgt := 271) dX0_ofTwo_1 hsw (by decide) (by decide) rfl (by decide) ?_
    refine r_iload_n dX0_ofTwo_271 rfl ?_
    refine r_iload_n dX0_ofTwo_272 rfl ?_
    refine r_ior dX0_ofTwo_273 rfl ?_
    refine r_iret dX0_ofTwo_274 rfl ?_
    exact ⟨by unfold o2C; rw [if_neg (by omega), if_neg (by omega), if_neg (by omega), if_neg (by omega), if_neg (by omega), if_neg (by omega), if_neg (by omega), if_neg (by omega), if_neg (by omega), if_neg (by omega), if_neg (by omega)], rfl, rfl⟩
  · refine r_tabEq (tgt := 271) dX0_ofTwo_1 hsw (by decide) (by decide) rfl (by decide) ?_
    refine r_iload_n dX0_ofTwo_271 rfl ?_
    refine r_iload_n dX0_ofTwo_272 rfl ?_
    refine r_ior dX0_ofTwo_273 rfl ?_
    refine r_iret dX0_ofTwo_274 rfl ?_
    exact ⟨by unfold o2C; rw [if_neg (by omega), if_neg (by omega), if_neg (by omega), if_neg (by omega), if_neg (by omega), if_neg (by omega), if_neg (by omega), if_neg (by omega), if_neg (by omega), if_neg (by omega), if_neg (by omega)], rfl, rfl⟩
  · refine r_tabEq (tgt := 271) dX0_ofTwo_1 hsw (by decide) (by decide) rfl (by decide) ?_
    refine r_iload_n dX0_ofTwo_271 rfl ?_
    refine r_iload_n dX0_ofTwo_272 rfl ?_
    refine r_ior dX0_ofTwo_273 rfl ?_
    refine r_iret dX0_ofTwo_274 rfl ?_
    exact ⟨by unfold o2C; rw [if_neg (by omega), if_neg (by omega), if_neg (by omega), if_neg (by omega), if_neg (by omega), if_neg (by omega), if_neg (by omega), if_neg (by omega), if_neg (by omega), if_neg (by omega), if_neg (by omega)], rfl, rfl⟩
  · refine r_tabEq (tgt := 271) dX0_ofTwo_1 hsw (by decide) (by decide) rfl (by decide) ?_
    refine r_iload_n dX0_ofTwo_271 rfl ?_
    refine r_iload_n dX0_ofTwo_272 rfl ?_
    refine r_ior dX0_ofTwo_273 rfl ?_
    refine r_iret dX0_ofTwo_274 rfl ?_
    exact ⟨by unfold o2C; rw [if_neg (by omega), if_neg (by omega), if_neg (by omega), if_neg (by omega), if_neg (by omega), if_neg (by omega), if_neg (by omega), if_neg (by omega), if_neg (by omega), if_neg (by omega), if_neg (by omega)], rfl, rfl⟩
  · refine r_tabEq (tgt := 271) dX0_ofTwo_1 hsw (by decide) (by decide) rfl (by decide) ?_
    refine r_iload_n dX0_ofTwo_271 rfl ?_
    refine r_iload_n dX0_ofTwo_272 rfl ?_
    refine r_ior dX0_ofTwo_273 rfl ?_
    refine r_iret dX0_ofTwo_274 rfl ?_
    exact ⟨by unfold o2C; rw [if_neg (by omega), if_neg (by omega), if_neg (by omega), if_neg (by omega), if_neg (by omega), if_neg (by omega), if_neg (by omega), if_neg (by omega), if_neg (by omega), if_neg (by omega), if_neg (by omega)], rfl, rfl⟩
  · refine r_tabEq (tgt := 267) dX0_ofTwo_1 hsw (by decide) (by decide) rfl (by decide) ?_
    refine r_iload_n dX0_ofTwo_267 rfl ?_
    refine r_iload_n dX0_ofTwo_268 rfl ?_
    refine r_iand dX0_ofTwo_269 rfl ?_
    refine r_iret dX0_ofTwo_270 rfl ?_
    exact ⟨by unfold o2C; rw [if_neg (by omega), if_neg (by omega), if_neg (by omega), if_neg (by omega), if_neg (by omega), if_neg (by omega), if_neg (by omega), if_neg (by omega), if_neg (by omega), if_neg (by omega), if_pos (by omega)], rfl, rfl⟩
