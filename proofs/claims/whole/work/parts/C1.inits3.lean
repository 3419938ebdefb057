theorem th_a2 {S0 R X : Sh} {q t2 : Nat × Nat × List Int} : (S0 ++ (q :: t2 :: R)) ++ X = S0 ++ (q :: t2 :: (R ++ X)) := th_a
theorem nw2_g {S0 R Y : Sh} {q t2 q2 : Nat × Nat × List Int} {x : Int} (hl : ((S0 ++ (q :: t2 :: R)).length : Int) = x) : (S0 ++ (q :: t2 :: (R ++ (q2 :: Y))))[x.toNat]? = some q2 := nw_g hl
theorem nw1_g {S X : Sh} {a : Int} {q : Nat × Nat × List Int} (h : S[a.toNat]? = some q) : (S ++ X)[a.toNat]? = some q := by
  rw [List.getElem?_append_left (List.getElem?_eq_some_iff.mp h).1]; exact h
def X10S (b : Int) : Sh := (10, 7, [b + 1, b + 49, b + 239, b + 2, b + 4, b + 8, b + 12]) :: (23, 4, [b + 15, b + 23, b + 31, b + 39]) :: ((((((((((([] ++ rdS4 (b + 2)) ++ hdS (b + 4)) ++ fiS (b + 8)) ++ rkS (b + 12)) ++ txS (b + 15)) ++ txS (b + 23)) ++ txS (b + 31)) ++ txS (b + 39)) ++ akS4 (b + 47)) ++ spS (b + 49) (b + 1) (b + 47)) ++ spS (b + 239) (b + 1) (b + 47))
theorem X10S_l {b : Int} : (X10S b).length = 429 := by
  unfold X10S
  simp only [List.length_append, List.length_cons, List.length_nil, mS_l, tdS_l, txS_l, rdS4_l, hdS_l, fiS_l, rkS_l, akS4_l, stS_l, spS_l]
def X10M (M : Me) (b : Int) : Me := spM (spM (up (up M (b + 2) 1 (-1)) (b + 2) 2 (-1)) (b + 49)) (b + 239)
set_option maxHeartbeats 2000000 in
theorem i_X10 {S0 S' : Sh} {M : Me} {b : Int} (hb : (S0.length : Int) = b) (hZ : Zm M b) (hS : S0 ++ X10S b = S') : Con kX10_init 4 428 6908 [(1, b)] (S0 ++ [(10, 7, List.replicate 7 (-1))]) M (Ex none S' (X10M M b)) := by
  have b0 : 0 ≤ b := by omega
  refine Con.ofV (al := [(1, b), (9, 0)]) 1 (by decide) (Nat.le_of_ble_eq_true rfl) rfl ?_
  refine r_aload_n dX10_init_0 rfl (by omega) ?_
  refine r_objI dX10_init_1 clX10_1 oi_1 oi_2 (by omega) (by decide) (by decide) ?_
  refine r_aload_n dX10_init_4 rfl (by omega) ?_
  refine r_iconst dX10_init_5 (by decide) ?_
  refine r_anew (n := 4) (t := 23) dX10_init_6 (Or.inl ⟨rfl, rfl⟩) klX10_9 rfl (by decide) (by decide) th_a (th_l (x := b + 1) hb (r := 0) (by simp only [List.length_append, List.length_cons, List.length_nil, mS_l, tdS_l, txS_l, rdS4_l, hdS_l, fiS_l, rkS_l, akS4_l, stS_l, spS_l]; rfl) (by omega)) (Zm.zr (n := b + 1) (hZ.le (m := b + 1) (by omega)) (th_l (x := b + 1) hb (r := 0) (by simp only [List.length_append, List.length_cons, List.length_nil, mS_l, tdS_l, txS_l, rdS4_l, hdS_l, fiS_l, rkS_l, akS4_l, stS_l, spS_l]; rfl) (by omega))) ?_
  refine r_putr dX10_init_9 fpX10_11 (th_g hb) (by decide) (show 0 < 7 by decide) (by omega) (by omega) rfl (th_s (rs2 := [b + 1, -1, -1, -1, -1, -1, -1]) hb rfl) ?_
  refine V.csh (show _ = S0 ++ ((10, 7, [b + 1, -1, -1, -1, -1, -1, -1]) :: (23, 4, [-1, -1, -1, -1]) :: []) from rfl) ?_
  refine r_aload_n dX10_init_12 rfl (by omega) ?_
  refine r_new (ci := 4) dX10_init_13 rfl (by decide) klX10_15 inX4 iiX4 (by decide) rfl (th_l (x := b + 2) hb (r := 1) (by simp only [List.length_append, List.length_cons, List.length_nil, mS_l, tdS_l, txS_l, rdS4_l, hdS_l, fiS_l, rkS_l, akS4_l, stS_l, spS_l]; rfl) (by omega)) (Zm.zr (n := b + 2) (hZ.le (m := b + 2) (by omega)) (th_l (x := b + 2) hb (r := 1) (by simp only [List.length_append, List.length_cons, List.length_nil, mS_l, tdS_l, txS_l, rdS4_l, hdS_l, fiS_l, rkS_l, akS4_l, stS_l, spS_l]; rfl) (by omega))) ?_
  refine r_dup dX10_init_16 (Nat.ne_of_beq_eq_false rfl) ?_
  refine r_ci0 (e1 := 1) (e2 := 300) dX10_init_17 (Or.inr clX10_17) (by omega) (by decide) (Nat.le_of_ble_eq_true rfl) (by decide) (i_X4 (b := b + 2) (th_l (x := b + 2) hb (r := 1) (by simp only [List.length_append, List.length_cons, List.length_nil, mS_l, tdS_l, txS_l, rdS4_l, hdS_l, fiS_l, rkS_l, akS4_l, stS_l, spS_l]; rfl) (by omega)) (hZ.le (m := b + 2) (by omega)) th_a2) ?_
  refine r_putr dX10_init_20 fpX10_18 (th_g hb) (by decide) (show 3 < 7 by decide) (by omega) (by omega) rfl (th_s (rs2 := [b + 1, -1, -1, b + 2, -1, -1, -1]) hb rfl) ?_
  refine r_aload_n dX10_init_23 rfl (by omega) ?_
  refine r_new (ci := 2) dX10_init_24 rfl (by decide) klX10_22 inX2 iiX2 (by decide) rfl (th_l (x := b + 4) hb (r := 3) (by simp only [List.length_append, List.length_cons, List.length_nil, mS_l, tdS_l, txS_l, rdS4_l, hdS_l, fiS_l, rkS_l, akS4_l, stS_l, spS_l]; rfl) (by omega)) (Zm.zr (n := b + 4) (((hZ.le (m := b + 4) (by omega)).up (by omega)).up (by omega)) (th_l (x := b + 4) hb (r := 3) (by simp only [List.length_append, List.length_cons, List.length_nil, mS_l, tdS_l, txS_l, rdS4_l, hdS_l, fiS_l, rkS_l, akS4_l, stS_l, spS_l]; rfl) (by omega))) ?_
  refine r_dup dX10_init_27 (Nat.ne_of_beq_eq_false rfl) ?_
  refine r_ci0 (e1 := 3) (e2 := 20) dX10_init_28 (Or.inr clX10_24) (by omega) (by decide) (Nat.le_of_ble_eq_true rfl) (by decide) (i_X2 (b := b + 4) (th_l (x := b + 4) hb (r := 3) (by simp only [List.length_append, List.length_cons, List.length_nil, mS_l, tdS_l, txS_l, rdS4_l, hdS_l, fiS_l, rkS_l, akS4_l, stS_l, spS_l]; rfl) (by omega)) (((hZ.le (m := b + 4) (by omega)).up (by omega)).up (by omega)) th_a2) ?_
  refine r_putr dX10_init_31 fpX10_25 (th_g hb) (by decide) (show 4 < 7 by decide) (by omega) (by omega) rfl (th_s (rs2 := [b + 1, -1, -1, b + 2, b + 4, -1, -1]) hb rfl) ?_
  refine r_aload_n dX10_init_34 rfl (by omega) ?_
  refine r_new (ci := 1) dX10_init_35 rfl (by decide) klX10_29 inX1 iiX1 (by decide) rfl (th_l (x := b + 8) hb (r := 7) (by simp only [List.length_append, List.length_cons, List.length_nil, mS_l, tdS_l, txS_l, rdS4_l, hdS_l, fiS_l, rkS_l, akS4_l, stS_l, spS_l]; rfl) (by omega)) (Zm.zr (n := b + 8) (((hZ.le (m := b + 8) (by omega)).up (by omega)).up (by omega)) (th_l (x := b + 8) hb (r := 7) (by simp only [List.length_append, List.length_cons, List.length_nil, mS_l, tdS_l, txS_l, rdS4_l, hdS_l, fiS_l, rkS_l, akS4_l, stS_l, spS_l]; rfl) (by omega))) ?_
  refine r_dup dX10_init_38 (Nat.ne_of_beq_eq_false rfl) ?_
  refine r_ci0 (e1 := 3) (e2 := 32) dX10_init_39 (Or.inr clX10_31) (by omega) (by decide) (Nat.le_of_ble_eq_true rfl) (by decide) (i_X1 (b := b + 8) (th_l (x := b + 8) hb (r := 7) (by simp only [List.length_append, List.length_cons, List.length_nil, mS_l, tdS_l, txS_l, rdS4_l, hdS_l, fiS_l, rkS_l, akS4_l, stS_l, spS_l]; rfl) (by omega)) (((hZ.le (m := b + 8) (by omega)).up (by omega)).up (by omega)) th_a2) ?_
  refine r_putr dX10_init_42 fpX10_32 (th_g hb) (by decide) (show 5 < 7 by decide) (by omega) (by omega) rfl (th_s (rs2 := [b + 1, -1, -1, b + 2, b + 4, b + 8, -1]) hb rfl) ?_
  refine r_aload_n dX10_init_45 rfl (by omega) ?_
  refine r_new (ci := 5) dX10_init_46 rfl (by decide) klX10_36 inX5 iiX5 (by decide) rfl (th_l (x := b + 12) hb (r := 11) (by simp only [List.length_append, List.length_cons, List.length_nil, mS_l, tdS_l, txS_l, rdS4_l, hdS_l, fiS_l, rkS_l, akS4_l, stS_l, spS_l]; rfl) (by omega)) (Zm.zr (n := b + 12) (((hZ.le (m := b + 12) (by omega)).up (by omega)).up (by omega)) (th_l (x := b + 12) hb (r := 11) (by simp only [List.length_append, List.length_cons, List.length_nil, mS_l, tdS_l, txS_l, rdS4_l, hdS_l, fiS_l, rkS_l, akS4_l, stS_l, spS_l]; rfl) (by omega))) ?_
  refine r_dup dX10_init_49 (Nat.ne_of_beq_eq_false rfl) ?_
  refine r_ci0 (e1 := 2) (e2 := 18) dX10_init_50 (Or.inr clX10_38) (by omega) (by decide) (Nat.le_of_ble_eq_true rfl) (by decide) (i_X5 (b := b + 12) (th_l (x := b + 12) hb (r := 11) (by simp only [List.length_append, List.length_cons, List.length_nil, mS_l, tdS_l, txS_l, rdS4_l, hdS_l, fiS_l, rkS_l, akS4_l, stS_l, spS_l]; rfl) (by omega)) (((hZ.le (m := b + 12) (by omega)).up (by omega)).up (by omega)) th_a2) ?_
  refine r_putr dX10_init_53 fpX10_39 (th_g hb) (by decide) (show 6 < 7 by decide) (by omega) (by omega) rfl (th_s (rs2 := [b + 1, -1, -1, b + 2, b + 4, b + 8, b + 12]) hb rfl) ?_
  refine r_iconst dX10_init_56 (by decide) ?_
  refine r_istore_n dX10_init_57 rfl (by decide) st1 ?_
  refine r_iload_n dX10_init_58 rfl ?_
  refine r_aload_n dX10_init_59 rfl (by omega) ?_
  refine r_getr (x := b + 1) dX10_init_60 flX10_11 (th_g hb) (by decide) (by omega) rfl rfl ?_
  refine r_alen (x := 4) dX10_init_63 (t2_g hb) (by decide) (by decide) (by omega) (by decide) rfl ?_
  refine r_icmp_ge (tgt := 86) dX10_init_64 (by decide) (fun h21 => absurd h21 (by decide)) (fun h21 => ?_)
  refine r_aload_n dX10_init_67 rfl (by omega) ?_
  refine r_getr (x := b + 1) dX10_init_68 flX10_11 (th_g hb) (by decide) (by omega) rfl rfl ?_
  refine r_iload_n dX10_init_71 rfl ?_
  refine r_new (ci := 8) dX10_init_72 rfl (by decide) klX10_9 inX8 iiX8 (by decide) rfl (th_l (x := b + 15) hb (r := 14) (by simp only [List.length_append, List.length_cons, List.length_nil, mS_l, tdS_l, txS_l, rdS4_l, hdS_l, fiS_l, rkS_l, akS4_l, stS_l, spS_l]; rfl) (by omega)) (Zm.zr (n := b + 15) (((hZ.le (m := b + 15) (by omega)).up (by omega)).up (by omega)) (th_l (x := b + 15) hb (r := 14) (by simp only [List.length_append, List.length_cons, List.length_nil, mS_l, tdS_l, txS_l, rdS4_l, hdS_l, fiS_l, rkS_l, akS4_l, stS_l, spS_l]; rfl) (by omega))) ?_
  refine r_dup dX10_init_75 (Nat.ne_of_beq_eq_false rfl) ?_
  refine r_ci0 (e1 := 7) (e2 := 402) dX10_init_76 (Or.inr clX10_43) (by omega) (by decide) (Nat.le_of_ble_eq_true rfl) (by decide) (i_X8 (b := b + 15) (th_l (x := b + 15) hb (r := 14) (by simp only [List.length_append, List.length_cons, List.length_nil, mS_l, tdS_l, txS_l, rdS4_l, hdS_l, fiS_l, rkS_l, akS4_l, stS_l, spS_l]; rfl) (by omega)) (((hZ.le (m := b + 15) (by omega)).up (by omega)).up (by omega)) th_a2) ?_
  refine r_qast dX10_init_79 (t2_g hb) (Or.inl ⟨rfl, rfl⟩) rfl (nw2_g (th_l (x := b + 15) hb (r := 14) (by simp only [List.length_append, List.length_cons, List.length_nil, mS_l, tdS_l, txS_l, rdS4_l, hdS_l, fiS_l, rkS_l, akS4_l, stS_l, spS_l]; rfl) (by omega))) (by omega) (by omega) (by decide) (by decide) (by decide) rfl (t2_s (rs2 := [b + 15, -1, -1, -1]) hb rfl) ?_
  refine r_iinc (y := 1) dX10_init_80 rfl rfl (by decide) (by decide) st1 ?_
  refine r_goto (tgt := 58) dX10_init_83 (by decide) ?_
  refine r_iload_n dX10_init_58 rfl ?_
  refine r_aload_n dX10_init_59 rfl (by omega) ?_
  refine r_getr (x := b + 1) dX10_init_60 flX10_11 (th_g hb) (by decide) (by omega) rfl rfl ?_
  refine r_alen (x := 4) dX10_init_63 (t2_g hb) (by decide) (by decide) (by omega) (by decide) rfl ?_
  refine r_icmp_ge (tgt := 86) dX10_init_64 (by decide) (fun h21 => absurd h21 (by decide)) (fun h21 => ?_)
  refine r_aload_n dX10_init_67 rfl (by omega) ?_
  refine r_getr (x := b + 1) dX10_init_68 flX10_11 (th_g hb) (by decide) (by omega) rfl rfl ?_
  refine r_iload_n dX10_init_71 rfl ?_
  refine r_new (ci := 8) dX10_init_72 rfl (by decide) klX10_9 inX8 iiX8 (by decide) rfl (th_l (x := b + 23) hb (r := 22) (by simp only [List.length_append, List.length_cons, List.length_nil, mS_l, tdS_l, txS_l, rdS4_l, hdS_l, fiS_l, rkS_l, akS4_l, stS_l, spS_l]; rfl) (by omega)) (Zm.zr (n := b + 23) (((hZ.le (m := b + 23) (by omega)).up (by omega)).up (by omega)) (th_l (x := b + 23) hb (r := 22) (by simp only [List.length_append, List.length_cons, List.length_nil, mS_l, tdS_l, txS_l, rdS4_l, hdS_l, fiS_l, rkS_l, akS4_l, stS_l, spS_l]; rfl) (by omega))) ?_
  refine r_dup dX10_init_75 (Nat.ne_of_beq_eq_false rfl) ?_
  refine r_ci0 (e1 := 7) (e2 := 402) dX10_init_76 (Or.inr clX10_43) (by omega) (by decide) (Nat.le_of_ble_eq_true rfl) (by decide) (i_X8 (b := b + 23) (th_l (x := b + 23) hb (r := 22) (by simp only [List.length_append, List.length_cons, List.length_nil, mS_l, tdS_l, txS_l, rdS4_l, hdS_l, fiS_l, rkS_l, akS4_l, stS_l, spS_l]; rfl) (by omega)) (((hZ.le (m := b + 23) (by omega)).up (by omega)).up (by omega)) th_a2) ?_
  refine r_qast dX10_init_79 (t2_g hb) (Or.inl ⟨rfl, rfl⟩) rfl (nw2_g (th_l (x := b + 23) hb (r := 22) (by simp only [List.length_append, List.length_cons, List.length_nil, mS_l, tdS_l, txS_l, rdS4_l, hdS_l, fiS_l, rkS_l, akS4_l, stS_l, spS_l]; rfl) (by omega))) (by omega) (by omega) (by decide) (by decide) (by decide) rfl (t2_s (rs2 := [b + 15, b + 23, -1, -1]) hb rfl) ?_
  refine r_iinc (y := 2) dX10_init_80 rfl rfl (by decide) (by decide) st1 ?_
  refine r_goto (tgt := 58) dX10_init_83 (by decide) ?_
  refine r_iload_n dX10_init_58 rfl ?_
  refine r_aload_n dX10_init_59 rfl (by omega) ?_
  refine r_getr (x := b + 1) dX10_init_60 flX10_11 (th_g hb) (by decide) (by omega) rfl rfl ?_
  refine r_alen (x := 4) dX10_init_63 (t2_g hb) (by decide) (by decide) (by omega) (by decide) rfl ?_
  refine r_icmp_ge (tgt := 86) dX10_init_64 (by decide) (fun h21 => absurd h21 (by decide)) (fun h21 => ?_)
  refine r_aload_n dX10_init_67 rfl (by omega) ?_
  refine r_getr (x := b + 1) dX10_init_68 flX10_11 (th_g hb) (by decide) (by omega) rfl rfl ?_
  refine r_iload_n dX10_init_71 rfl ?_
  refine r_new (ci := 8) dX10_init_72 rfl (by decide) klX10_9 inX8 iiX8 (by decide) rfl (th_l (x := b + 31) hb (r := 30) (by simp only [List.length_append, List.length_cons, List.length_nil, mS_l, tdS_l, txS_l, rdS4_l, hdS_l, fiS_l, rkS_l, akS4_l, stS_l, spS_l]; rfl) (by omega)) (Zm.zr (n := b + 31) (((hZ.le (m := b + 31) (by omega)).up (by omega)).up (by omega)) (th_l (x := b + 31) hb (r := 30) (by simp only [List.length_append, List.length_cons, List.length_nil, mS_l, tdS_l, txS_l, rdS4_l, hdS_l, fiS_l, rkS_l, akS4_l, stS_l, spS_l]; rfl) (by omega))) ?_
  refine r_dup dX10_init_75 (Nat.ne_of_beq_eq_false rfl) ?_
  refine r_ci0 (e1 := 7) (e2 := 402) dX10_init_76 (Or.inr clX10_43) (by omega) (by decide) (Nat.le_of_ble_eq_true rfl) (by decide) (i_X8 (b := b + 31) (th_l (x := b + 31) hb (r := 30) (by simp only [List.length_append, List.length_cons, List.length_nil, mS_l, tdS_l, txS_l, rdS4_l, hdS_l, fiS_l, rkS_l, akS4_l, stS_l, spS_l]; rfl) (by omega)) (((hZ.le (m := b + 31) (by omega)).up (by omega)).up (by omega)) th_a2) ?_
  refine r_qast dX10_init_79 (t2_g hb) (Or.inl ⟨rfl, rfl⟩) rfl (nw2_g (th_l (x := b + 31) hb (r := 30) (by simp only [List.length_append, List.length_cons, List.length_nil, mS_l, tdS_l, txS_l, rdS4_l, hdS_l, fiS_l, rkS_l, akS4_l, stS_l, spS_l]; rfl) (by omega))) (by omega) (by omega) (by decide) (by decide) (by decide) rfl (t2_s (rs2 := [b + 15, b + 23, b + 31, -1]) hb rfl) ?_
  refine r_iinc (y := 3) dX10_init_80 rfl rfl (by decide) (by decide) st1 ?_
  refine r_goto (tgt := 58) dX10_init_83 (by decide) ?_
  refine r_iload_n dX10_init_58 rfl ?_
  refine r_aload_n dX10_init_59 rfl (by omega) ?_
  refine r_getr (x := b + 1) dX10_init_60 flX10_11 (th_g hb) (by decide) (by omega) rfl rfl ?_
  refine r_alen (x := 4) dX10_init_63 (t2_g hb) (by decide) (by decide) (by omega) (by decide) rfl ?_
  refine r_icmp_ge (tgt := 86) dX10_init_64 (by decide) (fun h21 => absurd h21 (by decide)) (fun h21 => ?_)
  refine r_aload_n dX10_init_67 rfl (by omega) ?_
  refine r_getr (x := b + 1) dX10_init_68 flX10_11 (th_g hb) (by decide) (by omega) rfl rfl ?_
  refine r_iload_n dX10_init_71 rfl ?_
  refine r_new (ci := 8) dX10_init_72 rfl (by decide) klX10_9 inX8 iiX8 (by decide) rfl (th_l (x := b + 39) hb (r := 38) (by simp only [List.length_append, List.length_cons, List.length_nil, mS_l, tdS_l, txS_l, rdS4_l, hdS_l, fiS_l, rkS_l, akS4_l, stS_l, spS_l]; rfl) (by omega)) (Zm.zr (n := b + 39) (((hZ.le (m := b + 39) (by omega)).up (by omega)).up (by omega)) (th_l (x := b + 39) hb (r := 38) (by simp only [List.length_append, List.length_cons, List.length_nil, mS_l, tdS_l, txS_l, rdS4_l, hdS_l, fiS_l, rkS_l, akS4_l, stS_l, spS_l]; rfl) (by omega))) ?_
  refine r_dup dX10_init_75 (Nat.ne_of_beq_eq_false rfl) ?_
  refine r_ci0 (e1 := 7) (e2 := 402) dX10_init_76 (Or.inr clX10_43) (by omega) (by decide) (Nat.le_of_ble_eq_true rfl) (by decide) (i_X8 (b := b + 39) (th_l (x := b + 39) hb (r := 38) (by simp only [List.length_append, List.length_cons, List.length_nil, mS_l, tdS_l, txS_l, rdS4_l, hdS_l, fiS_l, rkS_l, akS4_l, stS_l, spS_l]; rfl) (by omega)) (((hZ.le (m := b + 39) (by omega)).up (by omega)).up (by omega)) th_a2) ?_
  refine r_qast dX10_init_79 (t2_g hb) (Or.inl ⟨rfl, rfl⟩) rfl (nw2_g (th_l (x := b + 39) hb (r := 38) (by simp only [List.length_append, List.length_cons, List.length_nil, mS_l, tdS_l, txS_l, rdS4_l, hdS_l, fiS_l, rkS_l, akS4_l, stS_l, spS_l]; rfl) (by omega))) (by omega) (by omega) (by decide) (by decide) (by decide) rfl (t2_s (rs2 := [b + 15, b + 23, b + 31, b + 39]) hb rfl) ?_
  refine r_iinc (y := 4) dX10_init_80 rfl rfl (by decide) (by decide) st1 ?_
  refine r_goto (tgt := 58) dX10_init_83 (by decide) ?_
  refine r_iload_n dX10_init_58 rfl ?_
  refine r_aload_n dX10_init_59 rfl (by omega) ?_
  refine r_getr (x := b + 1) dX10_init_60 flX10_11 (th_g hb) (by decide) (by omega) rfl rfl ?_
  refine r_alen (x := 4) dX10_init_63 (t2_g hb) (by decide) (by decide) (by omega) (by decide) rfl ?_
  refine r_icmp_ge (tgt := 86) dX10_init_64 (by decide) (fun h21 => ?_) (fun h21 => absurd h21 (by decide))
  refine r_new (ci := 0) dX10_init_86 rfl (by decide) klX10_44 inX0 iiX0 (by decide) rfl (th_l (x := b + 47) hb (r := 46) (by simp only [List.length_append, List.length_cons, List.length_nil, mS_l, tdS_l, txS_l, rdS4_l, hdS_l, fiS_l, rkS_l, akS4_l, stS_l, spS_l]; rfl) (by omega)) (Zm.zr (n := b + 47) (((hZ.le (m := b + 47) (by omega)).up (by omega)).up (by omega)) (th_l (x := b + 47) hb (r := 46) (by simp only [List.length_append, List.length_cons, List.length_nil, mS_l, tdS_l, txS_l, rdS4_l, hdS_l, fiS_l, rkS_l, akS4_l, stS_l, spS_l]; rfl) (by omega))) ?_
  refine r_dup dX10_init_89 (Nat.ne_of_beq_eq_false rfl) ?_
  refine r_ci0 (e1 := 1) (e2 := 64) dX10_init_90 (Or.inr clX10_46) (by omega) (by decide) (Nat.le_of_ble_eq_true rfl) (by decide) (i_X0 (b := b + 47) (th_l (x := b + 47) hb (r := 46) (by simp only [List.length_append, List.length_cons, List.length_nil, mS_l, tdS_l, txS_l, rdS4_l, hdS_l, fiS_l, rkS_l, akS4_l, stS_l, spS_l]; rfl) (by omega)) (((hZ.le (m := b + 47) (by omega)).up (by omega)).up (by omega)) th_a2) ?_
  refine r_astore_n dX10_init_93 (by omega) rfl (by decide) st1 ?_
  refine r_aload_n dX10_init_94 rfl (by omega) ?_
  refine r_new (ci := 6) dX10_init_95 rfl (by decide) klX10_47 inX6 iiX6 (by decide) rfl (th_l (x := b + 49) hb (r := 48) (by simp only [List.length_append, List.length_cons, List.length_nil, mS_l, tdS_l, txS_l, rdS4_l, hdS_l, fiS_l, rkS_l, akS4_l, stS_l, spS_l]; rfl) (by omega)) (Zm.zr (n := b + 49) (((hZ.le (m := b + 49) (by omega)).up (by omega)).up (by omega)) (th_l (x := b + 49) hb (r := 48) (by simp only [List.length_append, List.length_cons, List.length_nil, mS_l, tdS_l, txS_l, rdS4_l, hdS_l, fiS_l, rkS_l, akS4_l, stS_l, spS_l]; rfl) (by omega))) ?_
  refine r_dup dX10_init_98 (Nat.ne_of_beq_eq_false rfl) ?_
  refine r_aload_n dX10_init_99 rfl (by omega) ?_
  refine r_getr (x := b + 1) dX10_init_100 flX10_11 (nw1_g (th_g hb)) (by decide) (by omega) rfl rfl ?_
  refine r_aload_n dX10_init_103 rfl (by omega) ?_
  refine r_ci2 (e1 := 189) (e2 := 2385) dX10_init_104 (Or.inl clX10_49) (by omega) (by decide) (Nat.le_of_ble_eq_true rfl) (by decide) (i_X6 (by omega) (by omega) (b := b + 49) (th_l (x := b + 49) hb (r := 48) (by simp only [List.length_append, List.length_cons, List.length_nil, mS_l, tdS_l, txS_l, rdS4_l, hdS_l, fiS_l, rkS_l, akS4_l, stS_l, spS_l]; rfl) (by omega)) (((hZ.le (m := b + 49) (by omega)).up (by omega)).up (by omega)) th_a2) ?_
  refine r_putr dX10_init_107 fpX10_52 (th_g hb) (by decide) (show 1 < 7 by decide) (by omega) (by omega) rfl (th_s (rs2 := [b + 1, b + 49, -1, b + 2, b + 4, b + 8, b + 12]) hb rfl) ?_
  refine r_aload_n dX10_init_110 rfl (by omega) ?_
  refine r_new (ci := 6) dX10_init_111 rfl (by decide) klX10_47 inX6 iiX6 (by decide) rfl (th_l (x := b + 239) hb (r := 238) (by simp only [List.length_append, List.length_cons, List.length_nil, mS_l, tdS_l, txS_l, rdS4_l, hdS_l, fiS_l, rkS_l, akS4_l, stS_l, spS_l]; rfl) (by omega)) (Zm.zr (n := b + 239) (Zm.sp (((hZ.le (m := b + 239) (by omega)).up (by omega)).up (by omega)) (by omega)) (th_l (x := b + 239) hb (r := 238) (by simp only [List.length_append, List.length_cons, List.length_nil, mS_l, tdS_l, txS_l, rdS4_l, hdS_l, fiS_l, rkS_l, akS4_l, stS_l, spS_l]; rfl) (by omega))) ?_
  refine r_dup dX10_init_114 (Nat.ne_of_beq_eq_false rfl) ?_
  refine r_aload_n dX10_init_115 rfl (by omega) ?_
  refine r_getr (x := b + 1) dX10_init_116 flX10_11 (nw1_g (th_g hb)) (by decide) (by omega) rfl rfl ?_
  refine r_aload_n dX10_init_119 rfl (by omega) ?_
  refine r_ci2 (e1 := 189) (e2 := 2385) dX10_init_120 (Or.inl clX10_49) (by omega) (by decide) (Nat.le_of_ble_eq_true rfl) (by decide) (i_X6 (by omega) (by omega) (b := b + 239) (th_l (x := b + 239) hb (r := 238) (by simp only [List.length_append, List.length_cons, List.length_nil, mS_l, tdS_l, txS_l, rdS4_l, hdS_l, fiS_l, rkS_l, akS4_l, stS_l, spS_l]; rfl) (by omega)) (Zm.sp (((hZ.le (m := b + 239) (by omega)).up (by omega)).up (by omega)) (by omega)) th_a2) ?_
  refine r_putr dX10_init_123 fpX10_56 (th_g hb) (by decide) (show 2 < 7 by decide) (by omega) (by omega) rfl (th_s (rs2 := [b + 1, b + 49, b + 239, b + 2, b + 4, b + 8, b + 12]) hb rfl) ?_
  exact r_ret0 dX10_init_126 rfl ⟨rfl, hS, rfl⟩
