def ahL (b : Int) (i : Nat) : List Int := (List.range 30).map (fun k => if k < i then b + 2 + 5 * (k : Int) else -1)
def moL (b : Int) : Nat → Sh
  | 0 => []
  | i + 1 => moL b i ++ mS (b + 2 + 5 * (i : Int))
def stM (M : Me) (b : Int) : Nat → Me
  | 0 => M
  | i + 1 => up (stM M b i) (b + 2 + 5 * (i : Int)) 1 167
def stS (b : Int) : Sh := (7, 3, [-1, -1, b + 1]) :: (24, 30, ahL b 30) :: moL b 30
theorem moL_l {b : Int} : ∀ i : Nat, ((moL b i).length : Int) = 5 * (i : Int) := by
  intro i
  induction i with
  | zero => rfl
  | succ i ih =>
    unfold moL
    rw [List.length_append, mS_l]
    omega
theorem stS_l {b : Int} : (stS b).length = 152 := by
  have := moL_l (b := b) 30
  unfold stS
  rw [List.length_cons, List.length_cons]
  omega
theorem ahL_n {b : Int} {i : Nat} : (ahL b i).length = 30 := by
  unfold ahL
  rw [List.length_map, List.length_range]
theorem ahL_s {b : Int} {i : Nat} (h : i < 30) : (ahL b i).set ((i : Nat) : Int).toNat (b + 2 + 5 * (i : Int)) = ahL b (i + 1) := by
  rw [Int.toNat_natCast]
  apply List.ext_getElem?
  intro k
  by_cases q : k = i
  · subst q
    rw [List.getElem?_set_self (by rw [ahL_n]; exact h)]
    unfold ahL
    rw [List.getElem?_map, List.getElem?_range h]
    show some _ = some (if k < k + 1 then _ else _)
    rw [if_pos (by omega)]
  · rw [List.getElem?_set_ne (Ne.symm q)]
    unfold ahL
    rw [List.getElem?_map, List.getElem?_map]
    by_cases w : k < 30
    · rw [List.getElem?_range w]
      show some (if k < i then _ else _) = some (if k < i + 1 then _ else _)
      by_cases v : k < i
      · rw [if_pos v, if_pos (by omega)]
      · rw [if_neg v, if_neg (by omega)]
    · rw [List.getElem?_eq_none (by rw [List.length_range]; omega)]; rfl
theorem Zm.st {M : Me} {x n : Int} (h : Zm M n) : ∀ {i : Nat}, x + 2 + 5 * (i : Int) ≤ n → Zm (stM M x i) n := by
  intro i
  induction i with
  | zero => intro _; exact h
  | succ i ih => intro q; exact (ih (by omega)).up (by omega)
theorem i_X9 {n : Nat} (hn : n ≤ 8) {S0 S' : Sh} {M : Me} {b : Int} (hb : (S0.length : Int) = b) (hZ : Zm M b) (hS : S0 ++ tdS b n = S') : Con kX9_init 1 3 (3 * n) [(1, b), (0, (n : Int))] (S0 ++ [(9, 4, List.replicate 4 (-1))]) M (Ex none S' (M)) := by
  have b0 : 0 ≤ b := by omega
  refine Con.ofV (al := [(1, b), (0, (n : Int))]) 0 (by decide) (Nat.le_of_ble_eq_true rfl) rfl ?_
  refine r_aload_n dX9_init_0 rfl (by omega) ?_
  refine r_objI dX9_init_1 clX9_3 oi_1 oi_2 (by omega) (by decide) (by decide) ?_
  refine r_aload_n dX9_init_4 rfl (by omega) ?_
  refine r_iload_n dX9_init_5 rfl ?_
  refine r_newa (n := n) (t := 20) dX9_init_6 rfl (Or.inl rfl) ac_int rfl (by first | decide | omega) (by first | decide | omega) th_a (th_l (x := b + 1) hb (r := 0) (by simp only [List.length_append, List.length_cons, List.length_nil, mS_l, tdS_l, txS_l, rdS4_l, hdS_l, fiS_l, rkS_l, akS4_l, stS_l]; rfl) (by omega)) (Zm.zr (n := b + 1) (hZ.le (m := b + 1) (by omega)) (th_l (x := b + 1) hb (r := 0) (by simp only [List.length_append, List.length_cons, List.length_nil, mS_l, tdS_l, txS_l, rdS4_l, hdS_l, fiS_l, rkS_l, akS4_l, stS_l]; rfl) (by omega))) ?_
  refine r_putr dX9_init_8 fpX9_9 (th_g hb) (by decide) (show 1 < 4 by decide) (by omega) (by omega) rfl (th_s (rs2 := [-1, b + 1, -1, -1]) hb rfl) ?_
  refine r_aload_n dX9_init_11 rfl (by omega) ?_
  refine r_iload_n dX9_init_12 rfl ?_
  refine r_newa (n := n) (t := 20) dX9_init_13 rfl (Or.inl rfl) ac_int rfl (by first | decide | omega) (by first | decide | omega) th_a (th_l (x := b + 2) hb (r := 1) (by simp only [List.length_append, List.length_cons, List.length_nil, mS_l, tdS_l, txS_l, rdS4_l, hdS_l, fiS_l, rkS_l, akS4_l, stS_l]; rfl) (by omega)) (Zm.zr (n := b + 2) (hZ.le (m := b + 2) (by omega)) (th_l (x := b + 2) hb (r := 1) (by simp only [List.length_append, List.length_cons, List.length_nil, mS_l, tdS_l, txS_l, rdS4_l, hdS_l, fiS_l, rkS_l, akS4_l, stS_l]; rfl) (by omega))) ?_
  refine r_putr dX9_init_15 fpX9_15 (th_g hb) (by decide) (show 2 < 4 by decide) (by omega) (by omega) rfl (th_s (rs2 := [-1, b + 1, b + 2, -1]) hb rfl) ?_
  refine r_aload_n dX9_init_18 rfl (by omega) ?_
  refine r_iload_n dX9_init_19 rfl ?_
  refine r_newa (n := n) (t := 20) dX9_init_20 rfl (Or.inl rfl) ac_int rfl (by first | decide | omega) (by first | decide | omega) th_a (th_l (x := b + 3) hb (r := 2) (by simp only [List.length_append, List.length_cons, List.length_nil, mS_l, tdS_l, txS_l, rdS4_l, hdS_l, fiS_l, rkS_l, akS4_l, stS_l]; rfl) (by omega)) (Zm.zr (n := b + 3) (hZ.le (m := b + 3) (by omega)) (th_l (x := b + 3) hb (r := 2) (by simp only [List.length_append, List.length_cons, List.length_nil, mS_l, tdS_l, txS_l, rdS4_l, hdS_l, fiS_l, rkS_l, akS4_l, stS_l]; rfl) (by omega))) ?_
  refine r_putr dX9_init_22 fpX9_18 (th_g hb) (by decide) (show 3 < 4 by decide) (by omega) (by omega) rfl (th_s (rs2 := [-1, b + 1, b + 2, b + 3]) hb rfl) ?_
  exact r_ret0 dX9_init_25 rfl ⟨rfl, (show _ = S0 ++ tdS b n from rfl).trans hS, rfl⟩
theorem l_X7 {S0 S' : Sh} {M : Me} {b : Int} (hb : (S0.length : Int) = b) (hZ : Zm M b) (hS : S0 ++ stS b = S') : ∀ (m i : Nat), m + i = 30 → ∀ n1 n2 : Nat, n1 + 5 * m ≤ 151 → n2 + 68 * m ≤ 2070 → V kX7_init 151 2070 2 none (Ex none S' (stM M b 30)) 15 [(1, b), (0, (i : Int))] [] (S0 ++ ((7, 3, [-1, -1, b + 1]) :: (24, 30, ahL b i) :: moL b i)) (stM M b i) n1 n2 := by
  intro m
  induction m with
  | zero =>
    intro i hi n1 n2 h1 h2
    obtain rfl : i = 30 := by omega
    refine r_iload_n dX7_init_15 rfl ?_
    refine r_aload_n dX7_init_16 rfl (by omega) ?_
    refine r_getr (x := b + 1) dX7_init_17 flX7_11 (th_g hb) (by decide) (by omega) rfl rfl ?_
    refine r_alen (x := 30) dX7_init_20 (t2_g hb) (by decide) (by decide) (by omega) (by decide) rfl ?_
    refine r_icmp_ge (tgt := 43) dX7_init_21 (by decide) (fun h21 => ?_) (fun h21 => absurd h21 (by decide))
    exact r_ret0 dX7_init_43 rfl ⟨rfl, hS, rfl⟩
  | succ m ih =>
    intro i hi n1 n2 h1 h2
    have len : ((S0 ++ ((7, 3, [-1, -1, b + 1]) :: (24, 30, ahL b i) :: moL b i)).length : Int) = b + 2 + 5 * (i : Int) := th_l (x := b + 2 + 5 * (i : Int)) (r := 1 + 5 * (i : Int)) hb (by
      have := moL_l (b := b) i
      rw [List.length_cons]; omega) (by omega)
    have zm : Zm (stM M b i) (b + 2 + 5 * (i : Int)) := Zm.st (hZ.le (by omega)) (by omega)
    refine r_iload_n dX7_init_15 rfl ?_
    refine r_aload_n dX7_init_16 rfl (by omega) ?_
    refine r_getr (x := b + 1) dX7_init_17 flX7_11 (th_g hb) (by decide) (by omega) rfl rfl ?_
    refine r_alen (x := 30) dX7_init_20 (t2_g hb) (by decide) (by decide) (by omega) (by decide) rfl ?_
    refine r_icmp_ge (tgt := 43) dX7_init_21 (by decide) (fun h21 => by exfalso; omega) (fun h21 => ?_)
    refine r_aload_n dX7_init_24 rfl (by omega) ?_
    refine r_getr (x := b + 1) dX7_init_25 flX7_11 (th_g hb) (by decide) (by omega) rfl rfl ?_
    refine r_iload_n dX7_init_28 rfl ?_
    refine r_new (ci := 3) dX7_init_29 rfl (by decide) klX7_9 inX3 iiX3 (by omega) rfl len (Zm.zr zm len) ?_
    refine r_dup dX7_init_32 (Nat.ne_of_beq_eq_false rfl) ?_
    refine r_ci0 (e1 := 4) (e2 := 59) dX7_init_33 (Or.inr clX7_17) (by omega) (by decide) (Nat.le_of_ble_eq_true rfl) (by omega) (i_X3 (b := b + 2 + 5 * (i : Int)) len zm th_a) ?_
    refine r_qast dX7_init_36 (t2_g hb) (Or.inr ⟨rfl, rfl⟩) rfl (nw_g len) (by omega) (by omega) (by omega) (by omega) (by decide) ahL_n (t2_s hb (ahL_s (by omega))) ?_
    refine r_iinc dX7_init_37 rfl rfl (by decide) (w32_id (by omega)) st1 ?_
    refine r_goto (tgt := 15) dX7_init_40 (by decide) ?_
    exact ih (i + 1) (by omega) _ _ (by omega) (by omega)
theorem i_X7 {S0 S' : Sh} {M : Me} {b : Int} (hb : (S0.length : Int) = b) (hZ : Zm M b) (hS : S0 ++ stS b = S') : Con kX7_init 2 151 2070 [(1, b)] (S0 ++ [(7, 3, List.replicate 3 (-1))]) M (Ex none S' (stM M b 30)) := by
  have b0 : 0 ≤ b := by omega
  refine Con.ofV (al := [(1, b), (9, 0)]) 1 (by decide) (Nat.le_of_ble_eq_true rfl) rfl ?_
  refine r_aload_n dX7_init_0 rfl (by omega) ?_
  refine r_objI dX7_init_1 clX7_3 oi_1 oi_2 (by omega) (by decide) (by decide) ?_
  refine r_aload_n dX7_init_4 rfl (by omega) ?_
  refine r_bipush dX7_init_5 (by decide) (by decide) ?_
  refine r_anew (n := 30) (t := 24) dX7_init_7 (Or.inr ⟨rfl, rfl⟩) klX7_9 rfl (by decide) (by decide) th_a (th_l (x := b + 1) hb (r := 0) (by simp only [List.length_append, List.length_cons, List.length_nil, mS_l, tdS_l, txS_l, rdS4_l, hdS_l, fiS_l, rkS_l, akS4_l, stS_l]; rfl) (by omega)) (Zm.zr (n := b + 1) (hZ.le (m := b + 1) (by omega)) (th_l (x := b + 1) hb (r := 0) (by simp only [List.length_append, List.length_cons, List.length_nil, mS_l, tdS_l, txS_l, rdS4_l, hdS_l, fiS_l, rkS_l, akS4_l, stS_l]; rfl) (by omega))) ?_
  refine r_putr dX7_init_10 fpX7_11 (th_g hb) (by decide) (show 2 < 3 by decide) (by omega) (by omega) rfl (th_s (rs2 := [-1, -1, b + 1]) hb rfl) ?_
  refine r_iconst dX7_init_13 (by decide) ?_
  refine r_istore_n dX7_init_14 rfl (by decide) st1 ?_
  exact l_X7 hb hZ hS 30 0 rfl _ _ (by decide) (by decide)
def spS (b u w : Int) : Sh := (6, 21, [-1, -1, -1, b + 1, b + 6, b + 158, b + 159, b + 160, b + 161, b + 162, b + 163, b + 164, b + 165, b + 166, b + 170, b + 174, b + 178, b + 182, b + 186, u, w]) :: (((((((((((((((([] ++ mS (b + 1)) ++ stS (b + 6)) ++ [(20, 5, [])]) ++ [(20, 5, [])]) ++ [(20, 12, [])]) ++ [(20, 12, [])]) ++ [(20, 12, [])]) ++ [(20, 12, [])]) ++ [(20, 12, [])]) ++ [(20, 12, [])]) ++ tdS (b + 166) 8) ++ tdS (b + 170) 8) ++ tdS (b + 174) 8) ++ tdS (b + 178) 6) ++ tdS (b + 182) 8) ++ tdS (b + 186) 8)
def spM (M : Me) (b : Int) : Me := stM (up (up (up M b 0 5) b 2 (-1)) (b + 1) 1 167) (b + 6) 30
theorem spS_l {b u w : Int} : (spS b u w).length = 190 := by
  unfold spS
  simp only [List.length_append, List.length_cons, List.length_nil, mS_l, tdS_l, stS_l]
theorem Zm.sp {M : Me} {x n : Int} (h : Zm M n) (q : x + 158 ≤ n) : Zm (spM M x) n := Zm.st (((h.up (by omega)).up (by omega)).up (by omega)) (by omega)
set_option maxHeartbeats 2000000 in
theorem i_X6 {S0 S' : Sh} {M : Me} {b u w : Int} (hu : 0 ≤ u) (hw : 0 ≤ w) (hb : (S0.length : Int) = b) (hZ : Zm M b) (hS : S0 ++ spS b u w = S') : Con kX6_init 3 189 2385 [(1, b), (1, u), (1, w)] (S0 ++ [(6, 21, List.replicate 21 (-1))]) M (Ex none S' (spM M b)) := by
  have b0 : 0 ≤ b := by omega
  refine Con.ofV (al := [(1, b), (1, u), (1, w)]) 0 (by decide) (Nat.le_of_ble_eq_true rfl) rfl ?_
  refine r_aload_n dX6_init_0 rfl (by omega) ?_
  refine r_objI dX6_init_1 clX6_3 oi_1 oi_2 (by omega) (by decide) (by decide) ?_
  refine r_aload_n dX6_init_4 rfl (by omega) ?_
  refine r_iconst dX6_init_5 (by decide) ?_
  refine r_puti dX6_init_6 fpX6_9 (th_g hb) (by decide) (by omega) rfl rfl ?_
  refine r_aload_n dX6_init_9 rfl (by omega) ?_
  refine r_iconst dX6_init_10 (by decide) ?_
  refine r_puti dX6_init_11 fpX6_15 (th_g hb) (by decide) (by omega) rfl rfl ?_
  refine r_aload_n dX6_init_14 rfl (by omega) ?_
  refine r_new (ci := 3) dX6_init_15 rfl (by decide) klX6_18 inX3 iiX3 (by first | decide | omega) rfl (th_l (x := b + 1) hb (r := 0) (by simp only [List.length_append, List.length_cons, List.length_nil, mS_l, tdS_l, txS_l, rdS4_l, hdS_l, fiS_l, rkS_l, akS4_l, stS_l]; rfl) (by omega)) (Zm.zr (n := b + 1) (((hZ.le (m := b + 1) (by omega)).up (by omega)).up (by omega)) (th_l (x := b + 1) hb (r := 0) (by simp only [List.length_append, List.length_cons, List.length_nil, mS_l, tdS_l, txS_l, rdS4_l, hdS_l, fiS_l, rkS_l, akS4_l, stS_l]; rfl) (by omega))) ?_
  refine r_dup dX6_init_18 (Nat.ne_of_beq_eq_false rfl) ?_
  refine r_ci0 (e1 := 4) (e2 := 59) dX6_init_19 (Or.inr clX6_20) (by omega) (by decide) (Nat.le_of_ble_eq_true rfl) (by first | decide | omega) (i_X3 (b := b + 1) (th_l (x := b + 1) hb (r := 0) (by simp only [List.length_append, List.length_cons, List.length_nil, mS_l, tdS_l, txS_l, rdS4_l, hdS_l, fiS_l, rkS_l, akS4_l, stS_l]; rfl) (by omega)) (((hZ.le (m := b + 1) (by omega)).up (by omega)).up (by omega)) th_a) ?_
  refine r_putr dX6_init_22 fpX6_21 (th_g hb) (by decide) (show 3 < 21 by decide) (by omega) (by omega) rfl (th_s (rs2 := [-1, -1, -1, b + 1, -1, -1, -1, -1, -1, -1, -1, -1, -1, -1, -1, -1, -1, -1, -1, -1, -1]) hb rfl) ?_
  refine r_aload_n dX6_init_25 rfl (by omega) ?_
  refine r_new (ci := 7) dX6_init_26 rfl (by decide) klX6_25 inX7 iiX7 (by first | decide | omega) rfl (th_l (x := b + 6) hb (r := 5) (by simp only [List.length_append, List.length_cons, List.length_nil, mS_l, tdS_l, txS_l, rdS4_l, hdS_l, fiS_l, rkS_l, akS4_l, stS_l]; rfl) (by omega)) (Zm.zr (n := b + 6) ((((hZ.le (m := b + 6) (by omega)).up (by omega)).up (by omega)).up (by omega)) (th_l (x := b + 6) hb (r := 5) (by simp only [List.length_append, List.length_cons, List.length_nil, mS_l, tdS_l, txS_l, rdS4_l, hdS_l, fiS_l, rkS_l, akS4_l, stS_l]; rfl) (by omega))) ?_
  refine r_dup dX6_init_29 (Nat.ne_of_beq_eq_false rfl) ?_
  refine r_ci0 (e1 := 151) (e2 := 2070) dX6_init_30 (Or.inl clX6_27) (by omega) (by decide) (Nat.le_of_ble_eq_true rfl) (by first | decide | omega) (i_X7 (b := b + 6) (th_l (x := b + 6) hb (r := 5) (by simp only [List.length_append, List.length_cons, List.length_nil, mS_l, tdS_l, txS_l, rdS4_l, hdS_l, fiS_l, rkS_l, akS4_l, stS_l]; rfl) (by omega)) ((((hZ.le (m := b + 6) (by omega)).up (by omega)).up (by omega)).up (by omega)) th_a) ?_
  refine r_putr dX6_init_33 fpX6_28 (th_g hb) (by decide) (show 4 < 21 by decide) (by omega) (by omega) rfl (th_s (rs2 := [-1, -1, -1, b + 1, b + 6, -1, -1, -1, -1, -1, -1, -1, -1, -1, -1, -1, -1, -1, -1, -1, -1]) hb rfl) ?_
  refine r_aload_n dX6_init_36 rfl (by omega) ?_
  refine r_iconst dX6_init_37 (by decide) ?_
  refine r_newa (n := 5) (t := 20) dX6_init_38 rfl (Or.inl rfl) ac_int rfl (by first | decide | omega) (by first | decide | omega) th_a (th_l (x := b + 158) hb (r := 157) (by simp only [List.length_append, List.length_cons, List.length_nil, mS_l, tdS_l, txS_l, rdS4_l, hdS_l, fiS_l, rkS_l, akS4_l, stS_l]; rfl) (by omega)) (Zm.zr (n := b + 158) (Zm.st ((((hZ.le (m := b + 158) (by omega)).up (by omega)).up (by omega)).up (by omega)) (by omega)) (th_l (x := b + 158) hb (r := 157) (by simp only [List.length_append, List.length_cons, List.length_nil, mS_l, tdS_l, txS_l, rdS4_l, hdS_l, fiS_l, rkS_l, akS4_l, stS_l]; rfl) (by omega))) ?_
  refine r_putr dX6_init_40 fpX6_32 (th_g hb) (by decide) (show 5 < 21 by decide) (by omega) (by omega) rfl (th_s (rs2 := [-1, -1, -1, b + 1, b + 6, b + 158, -1, -1, -1, -1, -1, -1, -1, -1, -1, -1, -1, -1, -1, -1, -1]) hb rfl) ?_
  refine r_aload_n dX6_init_43 rfl (by omega) ?_
  refine r_iconst dX6_init_44 (by decide) ?_
  refine r_newa (n := 5) (t := 20) dX6_init_45 rfl (Or.inl rfl) ac_int rfl (by first | decide | omega) (by first | decide | omega) th_a (th_l (x := b + 159) hb (r := 158) (by simp only [List.length_append, List.length_cons, List.length_nil, mS_l, tdS_l, txS_l, rdS4_l, hdS_l, fiS_l, rkS_l, akS4_l, stS_l]; rfl) (by omega)) (Zm.zr (n := b + 159) (Zm.st ((((hZ.le (m := b + 159) (by omega)).up (by omega)).up (by omega)).up (by omega)) (by omega)) (th_l (x := b + 159) hb (r := 158) (by simp only [List.length_append, List.length_cons, List.length_nil, mS_l, tdS_l, txS_l, rdS4_l, hdS_l, fiS_l, rkS_l, akS4_l, stS_l]; rfl) (by omega))) ?_
  refine r_putr dX6_init_47 fpX6_36 (th_g hb) (by decide) (show 6 < 21 by decide) (by omega) (by omega) rfl (th_s (rs2 := [-1, -1, -1, b + 1, b + 6, b + 158, b + 159, -1, -1, -1, -1, -1, -1, -1, -1, -1, -1, -1, -1, -1, -1]) hb rfl) ?_
  refine r_aload_n dX6_init_50 rfl (by omega) ?_
  refine r_bipush dX6_init_51 (by decide) (by decide) ?_
  refine r_newa (n := 12) (t := 20) dX6_init_53 rfl (Or.inl rfl) ac_int rfl (by first | decide | omega) (by first | decide | omega) th_a (th_l (x := b + 160) hb (r := 159) (by simp only [List.length_append, List.length_cons, List.length_nil, mS_l, tdS_l, txS_l, rdS4_l, hdS_l, fiS_l, rkS_l, akS4_l, stS_l]; rfl) (by omega)) (Zm.zr (n := b + 160) (Zm.st ((((hZ.le (m := b + 160) (by omega)).up (by omega)).up (by omega)).up (by omega)) (by omega)) (th_l (x := b + 160) hb (r := 159) (by simp only [List.length_append, List.length_cons, List.length_nil, mS_l, tdS_l, txS_l, rdS4_l, hdS_l, fiS_l, rkS_l, akS4_l, stS_l]; rfl) (by omega))) ?_
  refine r_putr dX6_init_55 fpX6_39 (th_g hb) (by decide) (show 7 < 21 by decide) (by omega) (by omega) rfl (th_s (rs2 := [-1, -1, -1, b + 1, b + 6, b + 158, b + 159, b + 160, -1, -1, -1, -1, -1, -1, -1, -1, -1, -1, -1, -1, -1]) hb rfl) ?_
  refine r_aload_n dX6_init_58 rfl (by omega) ?_
  refine r_bipush dX6_init_59 (by decide) (by decide) ?_
  refine r_newa (n := 12) (t := 20) dX6_init_61 rfl (Or.inl rfl) ac_int rfl (by first | decide | omega) (by first | decide | omega) th_a (th_l (x := b + 161) hb (r := 160) (by simp only [List.length_append, List.length_cons, List.length_nil, mS_l, tdS_l, txS_l, rdS4_l, hdS_l, fiS_l, rkS_l, akS4_l, stS_l]; rfl) (by omega)) (Zm.zr (n := b + 161) (Zm.st ((((hZ.le (m := b + 161) (by omega)).up (by omega)).up (by omega)).up (by omega)) (by omega)) (th_l (x := b + 161) hb (r := 160) (by simp only [List.length_append, List.length_cons, List.length_nil, mS_l, tdS_l, txS_l, rdS4_l, hdS_l, fiS_l, rkS_l, akS4_l, stS_l]; rfl) (by omega))) ?_
  refine r_putr dX6_init_63 fpX6_42 (th_g hb) (by decide) (show 8 < 21 by decide) (by omega) (by omega) rfl (th_s (rs2 := [-1, -1, -1, b + 1, b + 6, b + 158, b + 159, b + 160, b + 161, -1, -1, -1, -1, -1, -1, -1, -1, -1, -1, -1, -1]) hb rfl) ?_
  refine r_aload_n dX6_init_66 rfl (by omega) ?_
  refine r_bipush dX6_init_67 (by decide) (by decide) ?_
  refine r_newa (n := 12) (t := 20) dX6_init_69 rfl (Or.inl rfl) ac_int rfl (by first | decide | omega) (by first | decide | omega) th_a (th_l (x := b + 162) hb (r := 161) (by simp only [List.length_append, List.length_cons, List.length_nil, mS_l, tdS_l, txS_l, rdS4_l, hdS_l, fiS_l, rkS_l, akS4_l, stS_l]; rfl) (by omega)) (Zm.zr (n := b + 162) (Zm.st ((((hZ.le (m := b + 162) (by omega)).up (by omega)).up (by omega)).up (by omega)) (by omega)) (th_l (x := b + 162) hb (r := 161) (by simp only [List.length_append, List.length_cons, List.length_nil, mS_l, tdS_l, txS_l, rdS4_l, hdS_l, fiS_l, rkS_l, akS4_l, stS_l]; rfl) (by omega))) ?_
  refine r_putr dX6_init_71 fpX6_45 (th_g hb) (by decide) (show 9 < 21 by decide) (by omega) (by omega) rfl (th_s (rs2 := [-1, -1, -1, b + 1, b + 6, b + 158, b + 159, b + 160, b + 161, b + 162, -1, -1, -1, -1, -1, -1, -1, -1, -1, -1, -1]) hb rfl) ?_
  refine r_aload_n dX6_init_74 rfl (by omega) ?_
  refine r_bipush dX6_init_75 (by decide) (by decide) ?_
  refine r_newa (n := 12) (t := 20) dX6_init_77 rfl (Or.inl rfl) ac_int rfl (by first | decide | omega) (by first | decide | omega) th_a (th_l (x := b + 163) hb (r := 162) (by simp only [List.length_append, List.length_cons, List.length_nil, mS_l, tdS_l, txS_l, rdS4_l, hdS_l, fiS_l, rkS_l, akS4_l, stS_l]; rfl) (by omega)) (Zm.zr (n := b + 163) (Zm.st ((((hZ.le (m := b + 163) (by omega)).up (by omega)).up (by omega)).up (by omega)) (by omega)) (th_l (x := b + 163) hb (r := 162) (by simp only [List.length_append, List.length_cons, List.length_nil, mS_l, tdS_l, txS_l, rdS4_l, hdS_l, fiS_l, rkS_l, akS4_l, stS_l]; rfl) (by omega))) ?_
  refine r_putr dX6_init_79 fpX6_48 (th_g hb) (by decide) (show 10 < 21 by decide) (by omega) (by omega) rfl (th_s (rs2 := [-1, -1, -1, b + 1, b + 6, b + 158, b + 159, b + 160, b + 161, b + 162, b + 163, -1, -1, -1, -1, -1, -1, -1, -1, -1, -1]) hb rfl) ?_
  refine r_aload_n dX6_init_82 rfl (by omega) ?_
  refine r_bipush dX6_init_83 (by decide) (by decide) ?_
  refine r_newa (n := 12) (t := 20) dX6_init_85 rfl (Or.inl rfl) ac_int rfl (by first | decide | omega) (by first | decide | omega) th_a (th_l (x := b + 164) hb (r := 163) (by simp only [List.length_append, List.length_cons, List.length_nil, mS_l, tdS_l, txS_l, rdS4_l, hdS_l, fiS_l, rkS_l, akS4_l, stS_l]; rfl) (by omega)) (Zm.zr (n := b + 164) (Zm.st ((((hZ.le (m := b + 164) (by omega)).up (by omega)).up (by omega)).up (by omega)) (by omega)) (th_l (x := b + 164) hb (r := 163) (by simp only [List.length_append, List.length_cons, List.length_nil, mS_l, tdS_l, txS_l, rdS4_l, hdS_l, fiS_l, rkS_l, akS4_l, stS_l]; rfl) (by omega))) ?_
  refine r_putr dX6_init_87 fpX6_51 (th_g hb) (by decide) (show 11 < 21 by decide) (by omega) (by omega) rfl (th_s (rs2 := [-1, -1, -1, b + 1, b + 6, b + 158, b + 159, b + 160, b + 161, b + 162, b + 163, b + 164, -1, -1, -1, -1, -1, -1, -1, -1, -1]) hb rfl) ?_
  refine r_aload_n dX6_init_90 rfl (by omega) ?_
  refine r_bipush dX6_init_91 (by decide) (by decide) ?_
  refine r_newa (n := 12) (t := 20) dX6_init_93 rfl (Or.inl rfl) ac_int rfl (by first | decide | omega) (by first | decide | omega) th_a (th_l (x := b + 165) hb (r := 164) (by simp only [List.length_append, List.length_cons, List.length_nil, mS_l, tdS_l, txS_l, rdS4_l, hdS_l, fiS_l, rkS_l, akS4_l, stS_l]; rfl) (by omega)) (Zm.zr (n := b + 165) (Zm.st ((((hZ.le (m := b + 165) (by omega)).up (by omega)).up (by omega)).up (by omega)) (by omega)) (th_l (x := b + 165) hb (r := 164) (by simp only [List.length_append, List.length_cons, List.length_nil, mS_l, tdS_l, txS_l, rdS4_l, hdS_l, fiS_l, rkS_l, akS4_l, stS_l]; rfl) (by omega))) ?_
  refine r_putr dX6_init_95 fpX6_54 (th_g hb) (by decide) (show 12 < 21 by decide) (by omega) (by omega) rfl (th_s (rs2 := [-1, -1, -1, b + 1, b + 6, b + 158, b + 159, b + 160, b + 161, b + 162, b + 163, b + 164, b + 165, -1, -1, -1, -1, -1, -1, -1, -1]) hb rfl) ?_
  refine r_aload_n dX6_init_98 rfl (by omega) ?_
  refine r_new (ci := 9) dX6_init_99 rfl (by decide) klX6_57 inX9 iiX9 (by first | decide | omega) rfl (th_l (x := b + 166) hb (r := 165) (by simp only [List.length_append, List.length_cons, List.length_nil, mS_l, tdS_l, txS_l, rdS4_l, hdS_l, fiS_l, rkS_l, akS4_l, stS_l]; rfl) (by omega)) (Zm.zr (n := b + 166) (Zm.st ((((hZ.le (m := b + 166) (by omega)).up (by omega)).up (by omega)).up (by omega)) (by omega)) (th_l (x := b + 166) hb (r := 165) (by simp only [List.length_append, List.length_cons, List.length_nil, mS_l, tdS_l, txS_l, rdS4_l, hdS_l, fiS_l, rkS_l, akS4_l, stS_l]; rfl) (by omega))) ?_
  refine r_dup dX6_init_102 (Nat.ne_of_beq_eq_false rfl) ?_
  refine r_bipush dX6_init_103 (by decide) (by decide) ?_
  refine r_ci1 (e1 := 3) (e2 := 24) dX6_init_105 (Or.inl clX6_59) (by omega) (by decide) (Nat.le_of_ble_eq_true rfl) (by first | decide | omega) (i_X9 (by decide) (n := 8) (b := b + 166) (th_l (x := b + 166) hb (r := 165) (by simp only [List.length_append, List.length_cons, List.length_nil, mS_l, tdS_l, txS_l, rdS4_l, hdS_l, fiS_l, rkS_l, akS4_l, stS_l]; rfl) (by omega)) (Zm.st ((((hZ.le (m := b + 166) (by omega)).up (by omega)).up (by omega)).up (by omega)) (by omega)) th_a) ?_
  refine r_putr dX6_init_108 fpX6_62 (th_g hb) (by decide) (show 13 < 21 by decide) (by omega) (by omega) rfl (th_s (rs2 := [-1, -1, -1, b + 1, b + 6, b + 158, b + 159, b + 160, b + 161, b + 162, b + 163, b + 164, b + 165, b + 166, -1, -1, -1, -1, -1, -1, -1]) hb rfl) ?_
  refine r_aload_n dX6_init_111 rfl (by omega) ?_
  refine r_new (ci := 9) dX6_init_112 rfl (by decide) klX6_57 inX9 iiX9 (by first | decide | omega) rfl (th_l (x := b + 170) hb (r := 169) (by simp only [List.length_append, List.length_cons, List.length_nil, mS_l, tdS_l, txS_l, rdS4_l, hdS_l, fiS_l, rkS_l, akS4_l, stS_l]; rfl) (by omega)) (Zm.zr (n := b + 170) (Zm.st ((((hZ.le (m := b + 170) (by omega)).up (by omega)).up (by omega)).up (by omega)) (by omega)) (th_l (x := b + 170) hb (r := 169) (by simp only [List.length_append, List.length_cons, List.length_nil, mS_l, tdS_l, txS_l, rdS4_l, hdS_l, fiS_l, rkS_l, akS4_l, stS_l]; rfl) (by omega))) ?_
  refine r_dup dX6_init_115 (Nat.ne_of_beq_eq_false rfl) ?_
  refine r_bipush dX6_init_116 (by decide) (by decide) ?_
  refine r_ci1 (e1 := 3) (e2 := 24) dX6_init_118 (Or.inl clX6_59) (by omega) (by decide) (Nat.le_of_ble_eq_true rfl) (by first | decide | omega) (i_X9 (by decide) (n := 8) (b := b + 170) (th_l (x := b + 170) hb (r := 169) (by simp only [List.length_append, List.length_cons, List.length_nil, mS_l, tdS_l, txS_l, rdS4_l, hdS_l, fiS_l, rkS_l, akS4_l, stS_l]; rfl) (by omega)) (Zm.st ((((hZ.le (m := b + 170) (by omega)).up (by omega)).up (by omega)).up (by omega)) (by omega)) th_a) ?_
  refine r_putr dX6_init_121 fpX6_66 (th_g hb) (by decide) (show 14 < 21 by decide) (by omega) (by omega) rfl (th_s (rs2 := [-1, -1, -1, b + 1, b + 6, b + 158, b + 159, b + 160, b + 161, b + 162, b + 163, b + 164, b + 165, b + 166, b + 170, -1, -1, -1, -1, -1, -1]) hb rfl) ?_
  refine r_aload_n dX6_init_124 rfl (by omega) ?_
  refine r_new (ci := 9) dX6_init_125 rfl (by decide) klX6_57 inX9 iiX9 (by first | decide | omega) rfl (th_l (x := b + 174) hb (r := 173) (by simp only [List.length_append, List.length_cons, List.length_nil, mS_l, tdS_l, txS_l, rdS4_l, hdS_l, fiS_l, rkS_l, akS4_l, stS_l]; rfl) (by omega)) (Zm.zr (n := b + 174) (Zm.st ((((hZ.le (m := b + 174) (by omega)).up (by omega)).up (by omega)).up (by omega)) (by omega)) (th_l (x := b + 174) hb (r := 173) (by simp only [List.length_append, List.length_cons, List.length_nil, mS_l, tdS_l, txS_l, rdS4_l, hdS_l, fiS_l, rkS_l, akS4_l, stS_l]; rfl) (by omega))) ?_
  refine r_dup dX6_init_128 (Nat.ne_of_beq_eq_false rfl) ?_
  refine r_bipush dX6_init_129 (by decide) (by decide) ?_
  refine r_ci1 (e1 := 3) (e2 := 24) dX6_init_131 (Or.inl clX6_59) (by omega) (by decide) (Nat.le_of_ble_eq_true rfl) (by first | decide | omega) (i_X9 (by decide) (n := 8) (b := b + 174) (th_l (x := b + 174) hb (r := 173) (by simp only [List.length_append, List.length_cons, List.length_nil, mS_l, tdS_l, txS_l, rdS4_l, hdS_l, fiS_l, rkS_l, akS4_l, stS_l]; rfl) (by omega)) (Zm.st ((((hZ.le (m := b + 174) (by omega)).up (by omega)).up (by omega)).up (by omega)) (by omega)) th_a) ?_
  refine r_putr dX6_init_134 fpX6_69 (th_g hb) (by decide) (show 15 < 21 by decide) (by omega) (by omega) rfl (th_s (rs2 := [-1, -1, -1, b + 1, b + 6, b + 158, b + 159, b + 160, b + 161, b + 162, b + 163, b + 164, b + 165, b + 166, b + 170, b + 174, -1, -1, -1, -1, -1]) hb rfl) ?_
  refine r_aload_n dX6_init_137 rfl (by omega) ?_
  refine r_new (ci := 9) dX6_init_138 rfl (by decide) klX6_57 inX9 iiX9 (by first | decide | omega) rfl (th_l (x := b + 178) hb (r := 177) (by simp only [List.length_append, List.length_cons, List.length_nil, mS_l, tdS_l, txS_l, rdS4_l, hdS_l, fiS_l, rkS_l, akS4_l, stS_l]; rfl) (by omega)) (Zm.zr (n := b + 178) (Zm.st ((((hZ.le (m := b + 178) (by omega)).up (by omega)).up (by omega)).up (by omega)) (by omega)) (th_l (x := b + 178) hb (r := 177) (by simp only [List.length_append, List.length_cons, List.length_nil, mS_l, tdS_l, txS_l, rdS4_l, hdS_l, fiS_l, rkS_l, akS4_l, stS_l]; rfl) (by omega))) ?_
  refine r_dup dX6_init_141 (Nat.ne_of_beq_eq_false rfl) ?_
  refine r_bipush dX6_init_142 (by decide) (by decide) ?_
  refine r_ci1 (e1 := 3) (e2 := 18) dX6_init_144 (Or.inl clX6_59) (by omega) (by decide) (Nat.le_of_ble_eq_true rfl) (by first | decide | omega) (i_X9 (by decide) (n := 6) (b := b + 178) (th_l (x := b + 178) hb (r := 177) (by simp only [List.length_append, List.length_cons, List.length_nil, mS_l, tdS_l, txS_l, rdS4_l, hdS_l, fiS_l, rkS_l, akS4_l, stS_l]; rfl) (by omega)) (Zm.st ((((hZ.le (m := b + 178) (by omega)).up (by omega)).up (by omega)).up (by omega)) (by omega)) th_a) ?_
  refine r_putr dX6_init_147 fpX6_72 (th_g hb) (by decide) (show 16 < 21 by decide) (by omega) (by omega) rfl (th_s (rs2 := [-1, -1, -1, b + 1, b + 6, b + 158, b + 159, b + 160, b + 161, b + 162, b + 163, b + 164, b + 165, b + 166, b + 170, b + 174, b + 178, -1, -1, -1, -1]) hb rfl) ?_
  refine r_aload_n dX6_init_150 rfl (by omega) ?_
  refine r_new (ci := 9) dX6_init_151 rfl (by decide) klX6_57 inX9 iiX9 (by first | decide | omega) rfl (th_l (x := b + 182) hb (r := 181) (by simp only [List.length_append, List.length_cons, List.length_nil, mS_l, tdS_l, txS_l, rdS4_l, hdS_l, fiS_l, rkS_l, akS4_l, stS_l]; rfl) (by omega)) (Zm.zr (n := b + 182) (Zm.st ((((hZ.le (m := b + 182) (by omega)).up (by omega)).up (by omega)).up (by omega)) (by omega)) (th_l (x := b + 182) hb (r := 181) (by simp only [List.length_append, List.length_cons, List.length_nil, mS_l, tdS_l, txS_l, rdS4_l, hdS_l, fiS_l, rkS_l, akS4_l, stS_l]; rfl) (by omega))) ?_
  refine r_dup dX6_init_154 (Nat.ne_of_beq_eq_false rfl) ?_
  refine r_bipush dX6_init_155 (by decide) (by decide) ?_
  refine r_ci1 (e1 := 3) (e2 := 24) dX6_init_157 (Or.inl clX6_59) (by omega) (by decide) (Nat.le_of_ble_eq_true rfl) (by first | decide | omega) (i_X9 (by decide) (n := 8) (b := b + 182) (th_l (x := b + 182) hb (r := 181) (by simp only [List.length_append, List.length_cons, List.length_nil, mS_l, tdS_l, txS_l, rdS4_l, hdS_l, fiS_l, rkS_l, akS4_l, stS_l]; rfl) (by omega)) (Zm.st ((((hZ.le (m := b + 182) (by omega)).up (by omega)).up (by omega)).up (by omega)) (by omega)) th_a) ?_
  refine r_putr dX6_init_160 fpX6_75 (th_g hb) (by decide) (show 17 < 21 by decide) (by omega) (by omega) rfl (th_s (rs2 := [-1, -1, -1, b + 1, b + 6, b + 158, b + 159, b + 160, b + 161, b + 162, b + 163, b + 164, b + 165, b + 166, b + 170, b + 174, b + 178, b + 182, -1, -1, -1]) hb rfl) ?_
  refine r_aload_n dX6_init_163 rfl (by omega) ?_
  refine r_new (ci := 9) dX6_init_164 rfl (by decide) klX6_57 inX9 iiX9 (by first | decide | omega) rfl (th_l (x := b + 186) hb (r := 185) (by simp only [List.length_append, List.length_cons, List.length_nil, mS_l, tdS_l, txS_l, rdS4_l, hdS_l, fiS_l, rkS_l, akS4_l, stS_l]; rfl) (by omega)) (Zm.zr (n := b + 186) (Zm.st ((((hZ.le (m := b + 186) (by omega)).up (by omega)).up (by omega)).up (by omega)) (by omega)) (th_l (x := b + 186) hb (r := 185) (by simp only [List.length_append, List.length_cons, List.length_nil, mS_l, tdS_l, txS_l, rdS4_l, hdS_l, fiS_l, rkS_l, akS4_l, stS_l]; rfl) (by omega))) ?_
  refine r_dup dX6_init_167 (Nat.ne_of_beq_eq_false rfl) ?_
  refine r_bipush dX6_init_168 (by decide) (by decide) ?_
  refine r_ci1 (e1 := 3) (e2 := 24) dX6_init_170 (Or.inl clX6_59) (by omega) (by decide) (Nat.le_of_ble_eq_true rfl) (by first | decide | omega) (i_X9 (by decide) (n := 8) (b := b + 186) (th_l (x := b + 186) hb (r := 185) (by simp only [List.length_append, List.length_cons, List.length_nil, mS_l, tdS_l, txS_l, rdS4_l, hdS_l, fiS_l, rkS_l, akS4_l, stS_l]; rfl) (by omega)) (Zm.st ((((hZ.le (m := b + 186) (by omega)).up (by omega)).up (by omega)).up (by omega)) (by omega)) th_a) ?_
  refine r_putr dX6_init_173 fpX6_78 (th_g hb) (by decide) (show 18 < 21 by decide) (by omega) (by omega) rfl (th_s (rs2 := [-1, -1, -1, b + 1, b + 6, b + 158, b + 159, b + 160, b + 161, b + 162, b + 163, b + 164, b + 165, b + 166, b + 170, b + 174, b + 178, b + 182, b + 186, -1, -1]) hb rfl) ?_
  refine r_aload_n dX6_init_176 rfl (by omega) ?_
  refine r_aload_n dX6_init_177 rfl (by omega) ?_
  refine r_putr dX6_init_178 fpX6_81 (th_g hb) (by decide) (show 19 < 21 by decide) (by omega) (by omega) rfl (th_s (rs2 := [-1, -1, -1, b + 1, b + 6, b + 158, b + 159, b + 160, b + 161, b + 162, b + 163, b + 164, b + 165, b + 166, b + 170, b + 174, b + 178, b + 182, b + 186, u, -1]) hb rfl) ?_
  refine r_aload_n dX6_init_181 rfl (by omega) ?_
  refine r_aload_n dX6_init_182 rfl (by omega) ?_
  refine r_putr dX6_init_183 fpX6_85 (th_g hb) (by decide) (show 20 < 21 by decide) (by omega) (by omega) rfl (th_s (rs2 := [-1, -1, -1, b + 1, b + 6, b + 158, b + 159, b + 160, b + 161, b + 162, b + 163, b + 164, b + 165, b + 166, b + 170, b + 174, b + 178, b + 182, b + 186, u, w]) hb rfl) ?_
  exact r_ret0 dX6_init_186 rfl ⟨rfl, (show _ = S0 ++ spS b u w from rfl).trans hS, rfl⟩
