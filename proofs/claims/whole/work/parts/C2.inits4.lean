def X11S : Sh := (11, 29, [430, 431, 432, 433, -1, -1, -1, -1, -1, -1, -1, -1, -1, -1, -1, 434, -1, -1, -1, -1, 435, 436, 437, 438, 439, -1, 440, 441, 442]) :: ((((((((((((([] ++ [(20, 2142, [])]) ++ [(20, 2142, [])]) ++ [(20, 2820, [])]) ++ [(20, 300, [])]) ++ [(20, 160, [])]) ++ [(20, 9, [])]) ++ [(22, 330, [])]) ++ [(21, 330, [])]) ++ [(20, 4, [])]) ++ [(20, 8, [])]) ++ [(20, 12, [])]) ++ [(20, 6, [])]) ++ [(20, 6, [])])
set_option maxRecDepth 100000 in
/-- the shape, once all is made -/
theorem shape0 : X10S 0 ++ X11S = Sf (-1) (-1) (-1) := by decide +kernel
set_option maxHeartbeats 2000000 in
theorem i_X11 {S0 : Sh} {M : Me} (hb : (S0.length : Int) = 429) (hZ : Zm M 429) (hS : S0 ++ X11S = Sf (-1) (-1) (-1)) : Con kX11_init 2 13 8269 [(1, 429)] (S0 ++ [(11, 29, List.replicate 29 (-1))]) M (Ex none (Sf (-1) (-1) (-1)) (cpy (up (up (up (up (up M 429 5 (-1)) 429 6 (-1)) 430 11 167) 430 2 (-1)) 430 13 5) 430 0 431 0 2142)) := by
  refine Con.ofV (al := [(1, 429)]) 0 (by decide) (Nat.le_of_ble_eq_true rfl) rfl ?_
  refine r_aload_n dX11_init_0 rfl (by omega) ?_
  refine r_objI dX11_init_1 clX11_1 oi_1 oi_2 (by omega) (by decide) (by decide) ?_
  refine r_aload_n dX11_init_4 rfl (by omega) ?_
  refine r_sipush dX11_init_5 (by decide) (by decide) ?_
  refine r_newa (n := 2142) (t := 20) dX11_init_8 rfl (Or.inl rfl) ac_int rfl (by first | decide | omega) (by first | decide | omega) th_a (th_l (x := 430) hb (r := 0) (by simp only [List.length_append, List.length_cons, List.length_nil, mS_l, tdS_l, txS_l, rdS4_l, hdS_l, fiS_l, rkS_l, akS4_l, stS_l, spS_l]; rfl) (by omega)) (Zm.zr (n := 430) (hZ.le (m := 430) (by omega)) (th_l (x := 430) hb (r := 0) (by simp only [List.length_append, List.length_cons, List.length_nil, mS_l, tdS_l, txS_l, rdS4_l, hdS_l, fiS_l, rkS_l, akS4_l, stS_l, spS_l]; rfl) (by omega))) ?_
  refine r_putr dX11_init_10 fpX11_7 (th_g hb) (by decide) (show 0 < 29 by decide) (by omega) (by omega) rfl (th_s (rs2 := [430, -1, -1, -1, -1, -1, -1, -1, -1, -1, -1, -1, -1, -1, -1, -1, -1, -1, -1, -1, -1, -1, -1, -1, -1, -1, -1, -1, -1]) hb rfl) ?_
  refine r_aload_n dX11_init_13 rfl (by omega) ?_
  refine r_sipush dX11_init_14 (by decide) (by decide) ?_
  refine r_newa (n := 2142) (t := 20) dX11_init_17 rfl (Or.inl rfl) ac_int rfl (by first | decide | omega) (by first | decide | omega) th_a (th_l (x := 431) hb (r := 1) (by simp only [List.length_append, List.length_cons, List.length_nil, mS_l, tdS_l, txS_l, rdS4_l, hdS_l, fiS_l, rkS_l, akS4_l, stS_l, spS_l]; rfl) (by omega)) (Zm.zr (n := 431) (hZ.le (m := 431) (by omega)) (th_l (x := 431) hb (r := 1) (by simp only [List.length_append, List.length_cons, List.length_nil, mS_l, tdS_l, txS_l, rdS4_l, hdS_l, fiS_l, rkS_l, akS4_l, stS_l, spS_l]; rfl) (by omega))) ?_
  refine r_putr dX11_init_19 fpX11_13 (th_g hb) (by decide) (show 1 < 29 by decide) (by omega) (by omega) rfl (th_s (rs2 := [430, 431, -1, -1, -1, -1, -1, -1, -1, -1, -1, -1, -1, -1, -1, -1, -1, -1, -1, -1, -1, -1, -1, -1, -1, -1, -1, -1, -1]) hb rfl) ?_
  refine r_aload_n dX11_init_22 rfl (by omega) ?_
  refine r_sipush dX11_init_23 (by decide) (by decide) ?_
  refine r_newa (n := 2820) (t := 20) dX11_init_26 rfl (Or.inl rfl) ac_int rfl (by first | decide | omega) (by first | decide | omega) th_a (th_l (x := 432) hb (r := 2) (by simp only [List.length_append, List.length_cons, List.length_nil, mS_l, tdS_l, txS_l, rdS4_l, hdS_l, fiS_l, rkS_l, akS4_l, stS_l, spS_l]; rfl) (by omega)) (Zm.zr (n := 432) (hZ.le (m := 432) (by omega)) (th_l (x := 432) hb (r := 2) (by simp only [List.length_append, List.length_cons, List.length_nil, mS_l, tdS_l, txS_l, rdS4_l, hdS_l, fiS_l, rkS_l, akS4_l, stS_l, spS_l]; rfl) (by omega))) ?_
  refine r_putr dX11_init_28 fpX11_16 (th_g hb) (by decide) (show 2 < 29 by decide) (by omega) (by omega) rfl (th_s (rs2 := [430, 431, 432, -1, -1, -1, -1, -1, -1, -1, -1, -1, -1, -1, -1, -1, -1, -1, -1, -1, -1, -1, -1, -1, -1, -1, -1, -1, -1]) hb rfl) ?_
  refine r_aload_n dX11_init_31 rfl (by omega) ?_
  refine r_sipush dX11_init_32 (by decide) (by decide) ?_
  refine r_newa (n := 300) (t := 20) dX11_init_35 rfl (Or.inl rfl) ac_int rfl (by first | decide | omega) (by first | decide | omega) th_a (th_l (x := 433) hb (r := 3) (by simp only [List.length_append, List.length_cons, List.length_nil, mS_l, tdS_l, txS_l, rdS4_l, hdS_l, fiS_l, rkS_l, akS4_l, stS_l, spS_l]; rfl) (by omega)) (Zm.zr (n := 433) (hZ.le (m := 433) (by omega)) (th_l (x := 433) hb (r := 3) (by simp only [List.length_append, List.length_cons, List.length_nil, mS_l, tdS_l, txS_l, rdS4_l, hdS_l, fiS_l, rkS_l, akS4_l, stS_l, spS_l]; rfl) (by omega))) ?_
  refine r_putr dX11_init_37 fpX11_19 (th_g hb) (by decide) (show 3 < 29 by decide) (by omega) (by omega) rfl (th_s (rs2 := [430, 431, 432, 433, -1, -1, -1, -1, -1, -1, -1, -1, -1, -1, -1, -1, -1, -1, -1, -1, -1, -1, -1, -1, -1, -1, -1, -1, -1]) hb rfl) ?_
  refine r_aload_n dX11_init_40 rfl (by omega) ?_
  refine r_iconst dX11_init_41 (by decide) ?_
  refine r_puti dX11_init_42 fpX11_22 (th_g hb) (by decide) (by omega) rfl rfl ?_
  refine r_aload_n dX11_init_45 rfl (by omega) ?_
  refine r_iconst dX11_init_46 (by decide) ?_
  refine r_puti dX11_init_47 fpX11_26 (th_g hb) (by decide) (by omega) rfl rfl ?_
  refine r_aload_n dX11_init_50 rfl (by omega) ?_
  refine r_sipush dX11_init_51 (by decide) (by decide) ?_
  refine r_newa (n := 160) (t := 20) dX11_init_54 rfl (Or.inl rfl) ac_int rfl (by first | decide | omega) (by first | decide | omega) th_a (th_l (x := 434) hb (r := 4) (by simp only [List.length_append, List.length_cons, List.length_nil, mS_l, tdS_l, txS_l, rdS4_l, hdS_l, fiS_l, rkS_l, akS4_l, stS_l, spS_l]; rfl) (by omega)) (Zm.zr (n := 434) (((hZ.le (m := 434) (by omega)).up (by omega)).up (by omega)) (th_l (x := 434) hb (r := 4) (by simp only [List.length_append, List.length_cons, List.length_nil, mS_l, tdS_l, txS_l, rdS4_l, hdS_l, fiS_l, rkS_l, akS4_l, stS_l, spS_l]; rfl) (by omega))) ?_
  refine r_putr dX11_init_56 fpX11_29 (th_g hb) (by decide) (show 15 < 29 by decide) (by omega) (by omega) rfl (th_s (rs2 := [430, 431, 432, 433, -1, -1, -1, -1, -1, -1, -1, -1, -1, -1, -1, 434, -1, -1, -1, -1, -1, -1, -1, -1, -1, -1, -1, -1, -1]) hb rfl) ?_
  refine r_aload_n dX11_init_59 rfl (by omega) ?_
  refine r_bipush dX11_init_60 (by decide) (by decide) ?_
  refine r_newa (n := 9) (t := 20) dX11_init_62 rfl (Or.inl rfl) ac_int rfl (by first | decide | omega) (by first | decide | omega) th_a (th_l (x := 435) hb (r := 5) (by simp only [List.length_append, List.length_cons, List.length_nil, mS_l, tdS_l, txS_l, rdS4_l, hdS_l, fiS_l, rkS_l, akS4_l, stS_l, spS_l]; rfl) (by omega)) (Zm.zr (n := 435) (((hZ.le (m := 435) (by omega)).up (by omega)).up (by omega)) (th_l (x := 435) hb (r := 5) (by simp only [List.length_append, List.length_cons, List.length_nil, mS_l, tdS_l, txS_l, rdS4_l, hdS_l, fiS_l, rkS_l, akS4_l, stS_l, spS_l]; rfl) (by omega))) ?_
  refine r_putr dX11_init_64 fpX11_32 (th_g hb) (by decide) (show 20 < 29 by decide) (by omega) (by omega) rfl (th_s (rs2 := [430, 431, 432, 433, -1, -1, -1, -1, -1, -1, -1, -1, -1, -1, -1, 434, -1, -1, -1, -1, 435, -1, -1, -1, -1, -1, -1, -1, -1]) hb rfl) ?_
  refine r_aload_n dX11_init_67 rfl (by omega) ?_
  refine r_sipush dX11_init_68 (by decide) (by decide) ?_
  refine r_newa (n := 330) (t := 22) dX11_init_71 rfl (Or.inr (Or.inr rfl)) ac_long rfl (by first | decide | omega) (by first | decide | omega) th_a (th_l (x := 436) hb (r := 6) (by simp only [List.length_append, List.length_cons, List.length_nil, mS_l, tdS_l, txS_l, rdS4_l, hdS_l, fiS_l, rkS_l, akS4_l, stS_l, spS_l]; rfl) (by omega)) (Zm.zr (n := 436) (((hZ.le (m := 436) (by omega)).up (by omega)).up (by omega)) (th_l (x := 436) hb (r := 6) (by simp only [List.length_append, List.length_cons, List.length_nil, mS_l, tdS_l, txS_l, rdS4_l, hdS_l, fiS_l, rkS_l, akS4_l, stS_l, spS_l]; rfl) (by omega))) ?_
  refine r_putr dX11_init_73 fpX11_35 (th_g hb) (by decide) (show 21 < 29 by decide) (by omega) (by omega) rfl (th_s (rs2 := [430, 431, 432, 433, -1, -1, -1, -1, -1, -1, -1, -1, -1, -1, -1, 434, -1, -1, -1, -1, 435, 436, -1, -1, -1, -1, -1, -1, -1]) hb rfl) ?_
  refine r_aload_n dX11_init_76 rfl (by omega) ?_
  refine r_sipush dX11_init_77 (by decide) (by decide) ?_
  refine r_newa (n := 330) (t := 21) dX11_init_80 rfl (Or.inr (Or.inl rfl)) ac_boolean rfl (by first | decide | omega) (by first | decide | omega) th_a (th_l (x := 437) hb (r := 7) (by simp only [List.length_append, List.length_cons, List.length_nil, mS_l, tdS_l, txS_l, rdS4_l, hdS_l, fiS_l, rkS_l, akS4_l, stS_l, spS_l]; rfl) (by omega)) (Zm.zr (n := 437) (((hZ.le (m := 437) (by omega)).up (by omega)).up (by omega)) (th_l (x := 437) hb (r := 7) (by simp only [List.length_append, List.length_cons, List.length_nil, mS_l, tdS_l, txS_l, rdS4_l, hdS_l, fiS_l, rkS_l, akS4_l, stS_l, spS_l]; rfl) (by omega))) ?_
  refine r_putr dX11_init_82 fpX11_39 (th_g hb) (by decide) (show 22 < 29 by decide) (by omega) (by omega) rfl (th_s (rs2 := [430, 431, 432, 433, -1, -1, -1, -1, -1, -1, -1, -1, -1, -1, -1, 434, -1, -1, -1, -1, 435, 436, 437, -1, -1, -1, -1, -1, -1]) hb rfl) ?_
  refine r_aload_n dX11_init_85 rfl (by omega) ?_
  refine r_iconst dX11_init_86 (by decide) ?_
  refine r_newa (n := 4) (t := 20) dX11_init_87 rfl (Or.inl rfl) ac_int rfl (by first | decide | omega) (by first | decide | omega) th_a (th_l (x := 438) hb (r := 8) (by simp only [List.length_append, List.length_cons, List.length_nil, mS_l, tdS_l, txS_l, rdS4_l, hdS_l, fiS_l, rkS_l, akS4_l, stS_l, spS_l]; rfl) (by omega)) (Zm.zr (n := 438) (((hZ.le (m := 438) (by omega)).up (by omega)).up (by omega)) (th_l (x := 438) hb (r := 8) (by simp only [List.length_append, List.length_cons, List.length_nil, mS_l, tdS_l, txS_l, rdS4_l, hdS_l, fiS_l, rkS_l, akS4_l, stS_l, spS_l]; rfl) (by omega))) ?_
  refine r_putr dX11_init_89 fpX11_43 (th_g hb) (by decide) (show 23 < 29 by decide) (by omega) (by omega) rfl (th_s (rs2 := [430, 431, 432, 433, -1, -1, -1, -1, -1, -1, -1, -1, -1, -1, -1, 434, -1, -1, -1, -1, 435, 436, 437, 438, -1, -1, -1, -1, -1]) hb rfl) ?_
  refine r_aload_n dX11_init_92 rfl (by omega) ?_
  refine r_bipush dX11_init_93 (by decide) (by decide) ?_
  refine r_newa (n := 8) (t := 20) dX11_init_95 rfl (Or.inl rfl) ac_int rfl (by first | decide | omega) (by first | decide | omega) th_a (th_l (x := 439) hb (r := 9) (by simp only [List.length_append, List.length_cons, List.length_nil, mS_l, tdS_l, txS_l, rdS4_l, hdS_l, fiS_l, rkS_l, akS4_l, stS_l, spS_l]; rfl) (by omega)) (Zm.zr (n := 439) (((hZ.le (m := 439) (by omega)).up (by omega)).up (by omega)) (th_l (x := 439) hb (r := 9) (by simp only [List.length_append, List.length_cons, List.length_nil, mS_l, tdS_l, txS_l, rdS4_l, hdS_l, fiS_l, rkS_l, akS4_l, stS_l, spS_l]; rfl) (by omega))) ?_
  refine r_putr dX11_init_97 fpX11_46 (th_g hb) (by decide) (show 24 < 29 by decide) (by omega) (by omega) rfl (th_s (rs2 := [430, 431, 432, 433, -1, -1, -1, -1, -1, -1, -1, -1, -1, -1, -1, 434, -1, -1, -1, -1, 435, 436, 437, 438, 439, -1, -1, -1, -1]) hb rfl) ?_
  refine r_aload_n dX11_init_100 rfl (by omega) ?_
  refine r_bipush dX11_init_101 (by decide) (by decide) ?_
  refine r_newa (n := 12) (t := 20) dX11_init_103 rfl (Or.inl rfl) ac_int rfl (by first | decide | omega) (by first | decide | omega) th_a (th_l (x := 440) hb (r := 10) (by simp only [List.length_append, List.length_cons, List.length_nil, mS_l, tdS_l, txS_l, rdS4_l, hdS_l, fiS_l, rkS_l, akS4_l, stS_l, spS_l]; rfl) (by omega)) (Zm.zr (n := 440) (((hZ.le (m := 440) (by omega)).up (by omega)).up (by omega)) (th_l (x := 440) hb (r := 10) (by simp only [List.length_append, List.length_cons, List.length_nil, mS_l, tdS_l, txS_l, rdS4_l, hdS_l, fiS_l, rkS_l, akS4_l, stS_l, spS_l]; rfl) (by omega))) ?_
  refine r_putr dX11_init_105 fpX11_49 (th_g hb) (by decide) (show 26 < 29 by decide) (by omega) (by omega) rfl (th_s (rs2 := [430, 431, 432, 433, -1, -1, -1, -1, -1, -1, -1, -1, -1, -1, -1, 434, -1, -1, -1, -1, 435, 436, 437, 438, 439, -1, 440, -1, -1]) hb rfl) ?_
  refine r_aload_n dX11_init_108 rfl (by omega) ?_
  refine r_bipush dX11_init_109 (by decide) (by decide) ?_
  refine r_newa (n := 6) (t := 20) dX11_init_111 rfl (Or.inl rfl) ac_int rfl (by first | decide | omega) (by first | decide | omega) th_a (th_l (x := 441) hb (r := 11) (by simp only [List.length_append, List.length_cons, List.length_nil, mS_l, tdS_l, txS_l, rdS4_l, hdS_l, fiS_l, rkS_l, akS4_l, stS_l, spS_l]; rfl) (by omega)) (Zm.zr (n := 441) (((hZ.le (m := 441) (by omega)).up (by omega)).up (by omega)) (th_l (x := 441) hb (r := 11) (by simp only [List.length_append, List.length_cons, List.length_nil, mS_l, tdS_l, txS_l, rdS4_l, hdS_l, fiS_l, rkS_l, akS4_l, stS_l, spS_l]; rfl) (by omega))) ?_
  refine r_putr dX11_init_113 fpX11_52 (th_g hb) (by decide) (show 27 < 29 by decide) (by omega) (by omega) rfl (th_s (rs2 := [430, 431, 432, 433, -1, -1, -1, -1, -1, -1, -1, -1, -1, -1, -1, 434, -1, -1, -1, -1, 435, 436, 437, 438, 439, -1, 440, 441, -1]) hb rfl) ?_
  refine r_aload_n dX11_init_116 rfl (by omega) ?_
  refine r_bipush dX11_init_117 (by decide) (by decide) ?_
  refine r_newa (n := 6) (t := 20) dX11_init_119 rfl (Or.inl rfl) ac_int rfl (by first | decide | omega) (by first | decide | omega) th_a (th_l (x := 442) hb (r := 12) (by simp only [List.length_append, List.length_cons, List.length_nil, mS_l, tdS_l, txS_l, rdS4_l, hdS_l, fiS_l, rkS_l, akS4_l, stS_l, spS_l]; rfl) (by omega)) (Zm.zr (n := 442) (((hZ.le (m := 442) (by omega)).up (by omega)).up (by omega)) (th_l (x := 442) hb (r := 12) (by simp only [List.length_append, List.length_cons, List.length_nil, mS_l, tdS_l, txS_l, rdS4_l, hdS_l, fiS_l, rkS_l, akS4_l, stS_l, spS_l]; rfl) (by omega))) ?_
  refine r_putr dX11_init_121 fpX11_55 (th_g hb) (by decide) (show 28 < 29 by decide) (by omega) (by omega) rfl (th_s (rs2 := [430, 431, 432, 433, -1, -1, -1, -1, -1, -1, -1, -1, -1, -1, -1, 434, -1, -1, -1, -1, 435, 436, 437, 438, 439, -1, 440, 441, 442]) hb rfl) ?_
  refine V.csh hS ?_
  refine r_aload_n dX11_init_124 rfl (by decide) ?_
  refine r_getr (x := 430) dX11_init_125 flX11_7 sf429 (by decide) (by decide) rfl rfl ?_
  refine r_bipush dX11_init_128 (by decide) (by decide) ?_
  refine r_sipush dX11_init_130 (by decide) (by decide) ?_
  refine r_iast dX11_init_133 sf430 (by decide) (by decide) (by decide) (by decide) rfl ?_
  refine r_aload_n dX11_init_134 rfl (by decide) ?_
  refine r_getr (x := 430) dX11_init_135 flX11_7 sf429 (by decide) (by decide) rfl rfl ?_
  refine r_iconst dX11_init_138 (by decide) ?_
  refine r_iconst dX11_init_139 (by decide) ?_
  refine r_iast dX11_init_140 sf430 (by decide) (by decide) (by decide) (by decide) rfl ?_
  refine r_aload_n dX11_init_141 rfl (by decide) ?_
  refine r_getr (x := 430) dX11_init_142 flX11_7 sf429 (by decide) (by decide) rfl rfl ?_
  refine r_bipush dX11_init_145 (by decide) (by decide) ?_
  refine r_iconst dX11_init_147 (by decide) ?_
  refine r_iast dX11_init_148 sf430 (by decide) (by decide) (by decide) (by decide) rfl ?_
  refine r_aload_n dX11_init_149 rfl (by decide) ?_
  refine r_getr (x := 430) dX11_init_150 flX11_7 sf429 (by decide) (by decide) rfl rfl ?_
  refine r_aload_n dX11_init_153 rfl (by decide) ?_
  refine r_getr (x := 431) dX11_init_154 flX11_13 sf429 (by decide) (by decide) rfl rfl ?_
  refine r_cu2 dX11_init_157 clX11_58 (by decide) (Nat.le_of_ble_eq_true rfl) m_copy_ai (by decide) ?_
  exact r_ret0 dX11_init_160 rfl ⟨rfl, rfl, rfl⟩
