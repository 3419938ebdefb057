/-- nothing from n on -/
def Zm (M : Me) (n : Int) : Prop := ∀ a j : Int, n ≤ a → M a j = 0
theorem Zm.le {M : Me} {n m : Int} (h : Zm M n) (q : n ≤ m) : Zm M m := fun a j w => h a j (by omega)
theorem Zm.up {M : Me} {n a j v : Int} (h : Zm M n) (q : a < n) : Zm (up M a j v) n := fun a9 j9 w => (up_ne (by omega)).trans (h a9 j9 w)
theorem Zm.zr {M : Me} {S : Sh} {n : Int} (h : Zm M n) (e : (S.length : Int) = n) : zr M S.length = M := by
  funext a j
  by_cases q : a = S.length
  · subst q
    exact zr_at.trans (h _ _ (by omega)).symm
  · exact zr_ne q
theorem Zm.all {M : Me} {S : Sh} {n : Int} (h : Zm M n) (e : (S.length : Int) = n) : ∀ x j : Int, (S.length : Int) ≤ x → M x j = 0 := fun x j w => h x j (by omega)
section CELLS
variable {S0 R X Y : Sh} {q q2 t2 : Nat × Nat × List Int} {b x r v : Int} {c n j : Nat} {rs rs2 : List Int}
theorem th_a : (S0 ++ (q :: R)) ++ X = S0 ++ (q :: (R ++ X)) := by rw [List.append_assoc]; rfl
theorem th_l (hb : (S0.length : Int) = b) (hr : (R.length : Int) = r) (hx : b + 1 + r = x) : ((S0 ++ (q :: R)).length : Int) = x := by
  rw [List.length_append, List.length_cons]; omega
theorem th_g (hb : (S0.length : Int) = b) : (S0 ++ (q :: R))[b.toNat]? = some q := by
  rw [List.getElem?_append_right (by omega), show b.toNat - S0.length = 0 by omega]; rfl
theorem t2_g (hb : (S0.length : Int) = b) : (S0 ++ (q :: t2 :: R))[(b + 1).toNat]? = some t2 := by
  rw [List.getElem?_append_right (by omega), show (b + 1).toNat - S0.length = 1 by omega]; rfl
theorem nw_g (hl : ((S0 ++ (q :: R)).length : Int) = x) : (S0 ++ (q :: (R ++ (q2 :: Y))))[x.toNat]? = some q2 := by
  rw [← th_a, List.getElem?_append_right (by omega), show x.toNat - (S0 ++ (q :: R)).length = 0 by omega]; rfl
theorem md_a {f : Nat × Nat × List Int → Nat × Nat × List Int} : ∀ (S0 L : Sh) (i : Nat), (S0 ++ L).modify (S0.length + i) f = S0 ++ L.modify i f := by
  intro S0
  induction S0 with
  | nil => intro L i; rw [List.length_nil, Nat.zero_add]; rfl
  | cons a S0 ih =>
    intro L i
    rw [List.length_cons, show S0.length + 1 + i = (S0.length + i) + 1 by omega]
    show a :: (S0 ++ L).modify (S0.length + i) f = _
    rw [ih]; rfl
theorem th_s (hb : (S0.length : Int) = b) (e : rs.set j v = rs2) : setR (S0 ++ ((c, n, rs) :: R)) b.toNat j v = S0 ++ ((c, n, rs2) :: R) := by
  subst e
  unfold setR
  rw [show b.toNat = S0.length + 0 by omega, md_a]; rfl
theorem t2_s (hb : (S0.length : Int) = b) (e : rs.set j v = rs2) : setR (S0 ++ (q :: (c, n, rs) :: R)) (b + 1).toNat j v = S0 ++ (q :: (c, n, rs2) :: R) := by
  subst e
  unfold setR
  rw [show (b + 1).toNat = S0.length + 1 by omega, md_a]; rfl
end CELLS
section CALLI
variable {k k' : MI} {c1 c2 dd d' e1 e2 : Nat} {xs : Option (List Int)} {Q : Option AV → Sh → Me → Prop} {pc index : Nat} {al rest : List AV} {S S' S2 : Sh} {M M' : Me} {n1 n2 : Nat} {a : Int} {w w2 : AV}
theorem V.csh {st : List AV} (e : S = S2) (kk : V k c1 c2 dd xs Q pc al st S2 M n1 n2) : V k c1 c2 dd xs Q pc al st S M n1 n2 := by subst e; exact kk
theorem r_ci0 (d : decode k.2.1 pc = .ok (.invokespecial index, 3)) (hl : CLi k.1.cls index k' 0 ∨ CLn k.1.cls index k' 0) (ha : 0 ≤ a) (hd : d' + 1 ≤ dd) (h8 : cS rest ≤ 8) (hm : n1 + e1 ≤ c1 ∧ n2 + e2 ≤ c2) (hM : Con k' d' e1 e2 [(1, a)] S M (Ex none S' M')) (kk : V k c1 c2 dd xs Q (pc + 3) al rest S' M' (n1 + e1) (n2 + e2)) : V k c1 c2 dd xs Q pc al ((1, a) :: rest) S M n1 n2 :=
  r_callI [] rest d hl ha hd rfl h8 hm hM (fun v S9 M9 q => by obtain ⟨-, rfl, rfl⟩ := q; exact kk)
theorem r_ci1 (d : decode k.2.1 pc = .ok (.invokespecial index, 3)) (hl : CLi k.1.cls index k' 1 ∨ CLn k.1.cls index k' 1) (ha : 0 ≤ a) (hd : d' + 1 ≤ dd) (h8 : cS rest ≤ 8) (hm : n1 + e1 ≤ c1 ∧ n2 + e2 ≤ c2) (hM : Con k' d' e1 e2 [(1, a), w] S M (Ex none S' M')) (kk : V k c1 c2 dd xs Q (pc + 3) al rest S' M' (n1 + e1) (n2 + e2)) : V k c1 c2 dd xs Q pc al (w :: (1, a) :: rest) S M n1 n2 :=
  r_callI [w] rest d hl ha hd rfl h8 hm hM (fun v S9 M9 q => by obtain ⟨-, rfl, rfl⟩ := q; exact kk)
theorem r_ci2 (d : decode k.2.1 pc = .ok (.invokespecial index, 3)) (hl : CLi k.1.cls index k' 2 ∨ CLn k.1.cls index k' 2) (ha : 0 ≤ a) (hd : d' + 1 ≤ dd) (h8 : cS rest ≤ 8) (hm : n1 + e1 ≤ c1 ∧ n2 + e2 ≤ c2) (hM : Con k' d' e1 e2 [(1, a), w, w2] S M (Ex none S' M')) (kk : V k c1 c2 dd xs Q (pc + 3) al rest S' M' (n1 + e1) (n2 + e2)) : V k c1 c2 dd xs Q pc al (w2 :: w :: (1, a) :: rest) S M n1 n2 :=
  r_callI [w, w2] rest d hl ha hd rfl h8 hm hM (fun v S9 M9 q => by obtain ⟨-, rfl, rfl⟩ := q; exact kk)
end CALLI
def mS (b : Int) : Sh := [(3, 9, [-1, -1, -1, -1, -1, b + 1, b + 2, b + 3, b + 4]), (20, 5, []), (20, 12, []), (20, 12, []), (20, 30, [])]
def rdS4 (b : Int) : Sh := [(4, 10, [-1, -1, -1, b + 1, -1, -1, -1, -1, -1, -1]), (20, 300, [])]
def hdS (b : Int) : Sh := [(2, 6, [-1, b + 1, -1, -1, b + 2, b + 3]), (20, 8, []), (20, 4, []), (20, 8, [])]
def fiS (b : Int) : Sh := [(1, 6, [-1, -1, -1, b + 1, b + 2, b + 3]), (20, 12, []), (20, 12, []), (20, 8, [])]
def rkS (b : Int) : Sh := [(5, 2, [b + 1, b + 2]), (20, 12, []), (20, 6, [])]
def akS4 (b : Int) : Sh := [(0, 2, [b + 1, -1]), (20, 64, [])]
def txS (b : Int) : Sh := [(8, 6, [-1, -1, b + 1, b + 2, b + 3, b + 4]), (20, 3, []), (20, 300, []), (20, 24, []), (25, 3, [b + 4 + 1, b + 4 + 2, b + 4 + 3]), (20, 24, []), (20, 24, []), (20, 24, [])]
def tdS (b : Int) (n : Nat) : Sh := [(9, 4, [-1, b + 1, b + 2, b + 3]), (20, n, []), (20, n, []), (20, n, [])]
theorem mS_l {b : Int} : (mS b).length = 5 := rfl
theorem tdS_l {b : Int} {n : Nat} : (tdS b n).length = 4 := rfl
theorem txS_l {b : Int} : (txS b).length = 8 := rfl
theorem rdS4_l {b : Int} : (rdS4 b).length = 2 := rfl
theorem hdS_l {b : Int} : (hdS b).length = 4 := rfl
theorem fiS_l {b : Int} : (fiS b).length = 4 := rfl
theorem rkS_l {b : Int} : (rkS b).length = 3 := rfl
theorem akS4_l {b : Int} : (akS4 b).length = 2 := rfl
theorem i_X3 {S0 S' : Sh} {M : Me} {b : Int} (hb : (S0.length : Int) = b) (hZ : Zm M b) (hS : S0 ++ mS b = S') : Con kX3_init 1 4 59 [(1, b)] (S0 ++ [(3, 9, List.replicate 9 (-1))]) M (Ex none S' (up M b 1 167)) := by
  have b0 : 0 ≤ b := by omega
  refine Con.ofV (al := [(1, b)]) 0 (by decide) (Nat.le_of_ble_eq_true rfl) rfl ?_
  refine r_aload_n dX3_init_0 rfl (by omega) ?_
  refine r_objI dX3_init_1 clX3_3 oi_1 oi_2 (by omega) (by decide) (by decide) ?_
  refine r_aload_n dX3_init_4 rfl (by omega) ?_
  refine r_sipush dX3_init_5 (by decide) (by decide) ?_
  refine r_puti dX3_init_8 fpX3_9 (th_g hb) (by decide) (by omega) rfl rfl ?_
  refine r_aload_n dX3_init_11 rfl (by omega) ?_
  refine r_iconst dX3_init_12 (by decide) ?_
  refine r_newa (n := 5) (t := 20) dX3_init_13 rfl (Or.inl rfl) ac_int rfl (by first | decide | omega) (by first | decide | omega) th_a (th_l (x := b + 1) hb (r := 0) (by first | rfl | (simp only [List.length_append, List.length_cons, List.length_nil, mS_l, tdS_l, txS_l, rdS4_l, hdS_l, fiS_l, rkS_l, akS4_l]; rfl)) (by omega)) (Zm.zr (n := b + 1) ((hZ.le (m := b + 1) (by omega)).up (by omega)) (th_l (x := b + 1) hb (r := 0) (by first | rfl | (simp only [List.length_append, List.length_cons, List.length_nil, mS_l, tdS_l, txS_l, rdS4_l, hdS_l, fiS_l, rkS_l, akS4_l]; rfl)) (by omega))) ?_
  refine r_putr dX3_init_15 fpX3_15 (th_g hb) (by decide) (show 5 < 9 by decide) (by omega) (by omega) rfl (th_s (rs2 := [-1, -1, -1, -1, -1, b + 1, -1, -1, -1]) hb rfl) ?_
  refine r_aload_n dX3_init_18 rfl (by omega) ?_
  refine r_bipush dX3_init_19 (by decide) (by decide) ?_
  refine r_newa (n := 12) (t := 20) dX3_init_21 rfl (Or.inl rfl) ac_int rfl (by first | decide | omega) (by first | decide | omega) th_a (th_l (x := b + 2) hb (r := 1) (by first | rfl | (simp only [List.length_append, List.length_cons, List.length_nil, mS_l, tdS_l, txS_l, rdS4_l, hdS_l, fiS_l, rkS_l, akS4_l]; rfl)) (by omega)) (Zm.zr (n := b + 2) ((hZ.le (m := b + 2) (by omega)).up (by omega)) (th_l (x := b + 2) hb (r := 1) (by first | rfl | (simp only [List.length_append, List.length_cons, List.length_nil, mS_l, tdS_l, txS_l, rdS4_l, hdS_l, fiS_l, rkS_l, akS4_l]; rfl)) (by omega))) ?_
  refine r_putr dX3_init_23 fpX3_19 (th_g hb) (by decide) (show 6 < 9 by decide) (by omega) (by omega) rfl (th_s (rs2 := [-1, -1, -1, -1, -1, b + 1, b + 2, -1, -1]) hb rfl) ?_
  refine r_aload_n dX3_init_26 rfl (by omega) ?_
  refine r_bipush dX3_init_27 (by decide) (by decide) ?_
  refine r_newa (n := 12) (t := 20) dX3_init_29 rfl (Or.inl rfl) ac_int rfl (by first | decide | omega) (by first | decide | omega) th_a (th_l (x := b + 3) hb (r := 2) (by first | rfl | (simp only [List.length_append, List.length_cons, List.length_nil, mS_l, tdS_l, txS_l, rdS4_l, hdS_l, fiS_l, rkS_l, akS4_l]; rfl)) (by omega)) (Zm.zr (n := b + 3) ((hZ.le (m := b + 3) (by omega)).up (by omega)) (th_l (x := b + 3) hb (r := 2) (by first | rfl | (simp only [List.length_append, List.length_cons, List.length_nil, mS_l, tdS_l, txS_l, rdS4_l, hdS_l, fiS_l, rkS_l, akS4_l]; rfl)) (by omega))) ?_
  refine r_putr dX3_init_31 fpX3_22 (th_g hb) (by decide) (show 7 < 9 by decide) (by omega) (by omega) rfl (th_s (rs2 := [-1, -1, -1, -1, -1, b + 1, b + 2, b + 3, -1]) hb rfl) ?_
  refine r_aload_n dX3_init_34 rfl (by omega) ?_
  refine r_bipush dX3_init_35 (by decide) (by decide) ?_
  refine r_newa (n := 30) (t := 20) dX3_init_37 rfl (Or.inl rfl) ac_int rfl (by first | decide | omega) (by first | decide | omega) th_a (th_l (x := b + 4) hb (r := 3) (by first | rfl | (simp only [List.length_append, List.length_cons, List.length_nil, mS_l, tdS_l, txS_l, rdS4_l, hdS_l, fiS_l, rkS_l, akS4_l]; rfl)) (by omega)) (Zm.zr (n := b + 4) ((hZ.le (m := b + 4) (by omega)).up (by omega)) (th_l (x := b + 4) hb (r := 3) (by first | rfl | (simp only [List.length_append, List.length_cons, List.length_nil, mS_l, tdS_l, txS_l, rdS4_l, hdS_l, fiS_l, rkS_l, akS4_l]; rfl)) (by omega))) ?_
  refine r_putr dX3_init_39 fpX3_25 (th_g hb) (by decide) (show 8 < 9 by decide) (by omega) (by omega) rfl (th_s (rs2 := [-1, -1, -1, -1, -1, b + 1, b + 2, b + 3, b + 4]) hb rfl) ?_
  exact r_ret0 dX3_init_42 rfl ⟨rfl, (show _ = S0 ++ mS b from rfl).trans hS, rfl⟩
theorem i_X4 {S0 S' : Sh} {M : Me} {b : Int} (hb : (S0.length : Int) = b) (hZ : Zm M b) (hS : S0 ++ rdS4 b = S') : Con kX4_init 1 1 300 [(1, b)] (S0 ++ [(4, 10, List.replicate 10 (-1))]) M (Ex none S' (up (up M b 1 (-1)) b 2 (-1))) := by
  have b0 : 0 ≤ b := by omega
  refine Con.ofV (al := [(1, b)]) 0 (by decide) (Nat.le_of_ble_eq_true rfl) rfl ?_
  refine r_aload_n dX4_init_0 rfl (by omega) ?_
  refine r_objI dX4_init_1 clX4_3 oi_1 oi_2 (by omega) (by decide) (by decide) ?_
  refine r_aload_n dX4_init_4 rfl (by omega) ?_
  refine r_iconst dX4_init_5 (by decide) ?_
  refine r_puti dX4_init_6 fpX4_9 (th_g hb) (by decide) (by omega) rfl rfl ?_
  refine r_aload_n dX4_init_9 rfl (by omega) ?_
  refine r_iconst dX4_init_10 (by decide) ?_
  refine r_puti dX4_init_11 fpX4_15 (th_g hb) (by decide) (by omega) rfl rfl ?_
  refine r_aload_n dX4_init_14 rfl (by omega) ?_
  refine r_sipush dX4_init_15 (by decide) (by decide) ?_
  refine r_newa (n := 300) (t := 20) dX4_init_18 rfl (Or.inl rfl) ac_int rfl (by first | decide | omega) (by first | decide | omega) th_a (th_l (x := b + 1) hb (r := 0) (by first | rfl | (simp only [List.length_append, List.length_cons, List.length_nil, mS_l, tdS_l, txS_l, rdS4_l, hdS_l, fiS_l, rkS_l, akS4_l]; rfl)) (by omega)) (Zm.zr (n := b + 1) (((hZ.le (m := b + 1) (by omega)).up (by omega)).up (by omega)) (th_l (x := b + 1) hb (r := 0) (by first | rfl | (simp only [List.length_append, List.length_cons, List.length_nil, mS_l, tdS_l, txS_l, rdS4_l, hdS_l, fiS_l, rkS_l, akS4_l]; rfl)) (by omega))) ?_
  refine r_putr dX4_init_20 fpX4_18 (th_g hb) (by decide) (show 3 < 10 by decide) (by omega) (by omega) rfl (th_s (rs2 := [-1, -1, -1, b + 1, -1, -1, -1, -1, -1, -1]) hb rfl) ?_
  exact r_ret0 dX4_init_23 rfl ⟨rfl, (show _ = S0 ++ rdS4 b from rfl).trans hS, rfl⟩
theorem i_X2 {S0 S' : Sh} {M : Me} {b : Int} (hb : (S0.length : Int) = b) (hZ : Zm M b) (hS : S0 ++ hdS b = S') : Con kX2_init 1 3 20 [(1, b)] (S0 ++ [(2, 6, List.replicate 6 (-1))]) M (Ex none S' (M)) := by
  have b0 : 0 ≤ b := by omega
  refine Con.ofV (al := [(1, b)]) 0 (by decide) (Nat.le_of_ble_eq_true rfl) rfl ?_
  refine r_aload_n dX2_init_0 rfl (by omega) ?_
  refine r_objI dX2_init_1 clX2_3 oi_1 oi_2 (by omega) (by decide) (by decide) ?_
  refine r_aload_n dX2_init_4 rfl (by omega) ?_
  refine r_bipush dX2_init_5 (by decide) (by decide) ?_
  refine r_newa (n := 8) (t := 20) dX2_init_7 rfl (Or.inl rfl) ac_int rfl (by first | decide | omega) (by first | decide | omega) th_a (th_l (x := b + 1) hb (r := 0) (by first | rfl | (simp only [List.length_append, List.length_cons, List.length_nil, mS_l, tdS_l, txS_l, rdS4_l, hdS_l, fiS_l, rkS_l, akS4_l]; rfl)) (by omega)) (Zm.zr (n := b + 1) (hZ.le (m := b + 1) (by omega)) (th_l (x := b + 1) hb (r := 0) (by first | rfl | (simp only [List.length_append, List.length_cons, List.length_nil, mS_l, tdS_l, txS_l, rdS4_l, hdS_l, fiS_l, rkS_l, akS4_l]; rfl)) (by omega))) ?_
  refine r_putr dX2_init_9 fpX2_9 (th_g hb) (by decide) (show 1 < 6 by decide) (by omega) (by omega) rfl (th_s (rs2 := [-1, b + 1, -1, -1, -1, -1]) hb rfl) ?_
  refine r_aload_n dX2_init_12 rfl (by omega) ?_
  refine r_iconst dX2_init_13 (by decide) ?_
  refine r_newa (n := 4) (t := 20) dX2_init_14 rfl (Or.inl rfl) ac_int rfl (by first | decide | omega) (by first | decide | omega) th_a (th_l (x := b + 2) hb (r := 1) (by first | rfl | (simp only [List.length_append, List.length_cons, List.length_nil, mS_l, tdS_l, txS_l, rdS4_l, hdS_l, fiS_l, rkS_l, akS4_l]; rfl)) (by omega)) (Zm.zr (n := b + 2) (hZ.le (m := b + 2) (by omega)) (th_l (x := b + 2) hb (r := 1) (by first | rfl | (simp only [List.length_append, List.length_cons, List.length_nil, mS_l, tdS_l, txS_l, rdS4_l, hdS_l, fiS_l, rkS_l, akS4_l]; rfl)) (by omega))) ?_
  refine r_putr dX2_init_16 fpX2_15 (th_g hb) (by decide) (show 4 < 6 by decide) (by omega) (by omega) rfl (th_s (rs2 := [-1, b + 1, -1, -1, b + 2, -1]) hb rfl) ?_
  refine r_aload_n dX2_init_19 rfl (by omega) ?_
  refine r_bipush dX2_init_20 (by decide) (by decide) ?_
  refine r_newa (n := 8) (t := 20) dX2_init_22 rfl (Or.inl rfl) ac_int rfl (by first | decide | omega) (by first | decide | omega) th_a (th_l (x := b + 3) hb (r := 2) (by first | rfl | (simp only [List.length_append, List.length_cons, List.length_nil, mS_l, tdS_l, txS_l, rdS4_l, hdS_l, fiS_l, rkS_l, akS4_l]; rfl)) (by omega)) (Zm.zr (n := b + 3) (hZ.le (m := b + 3) (by omega)) (th_l (x := b + 3) hb (r := 2) (by first | rfl | (simp only [List.length_append, List.length_cons, List.length_nil, mS_l, tdS_l, txS_l, rdS4_l, hdS_l, fiS_l, rkS_l, akS4_l]; rfl)) (by omega))) ?_
  refine r_putr dX2_init_24 fpX2_18 (th_g hb) (by decide) (show 5 < 6 by decide) (by omega) (by omega) rfl (th_s (rs2 := [-1, b + 1, -1, -1, b + 2, b + 3]) hb rfl) ?_
  exact r_ret0 dX2_init_27 rfl ⟨rfl, (show _ = S0 ++ hdS b from rfl).trans hS, rfl⟩
theorem i_X1 {S0 S' : Sh} {M : Me} {b : Int} (hb : (S0.length : Int) = b) (hZ : Zm M b) (hS : S0 ++ fiS b = S') : Con kX1_init 1 3 32 [(1, b)] (S0 ++ [(1, 6, List.replicate 6 (-1))]) M (Ex none S' (M)) := by
  have b0 : 0 ≤ b := by omega
  refine Con.ofV (al := [(1, b)]) 0 (by decide) (Nat.le_of_ble_eq_true rfl) rfl ?_
  refine r_aload_n dX1_init_0 rfl (by omega) ?_
  refine r_objI dX1_init_1 clX1_3 oi_1 oi_2 (by omega) (by decide) (by decide) ?_
  refine r_aload_n dX1_init_4 rfl (by omega) ?_
  refine r_bipush dX1_init_5 (by decide) (by decide) ?_
  refine r_newa (n := 12) (t := 20) dX1_init_7 rfl (Or.inl rfl) ac_int rfl (by first | decide | omega) (by first | decide | omega) th_a (th_l (x := b + 1) hb (r := 0) (by first | rfl | (simp only [List.length_append, List.length_cons, List.length_nil, mS_l, tdS_l, txS_l, rdS4_l, hdS_l, fiS_l, rkS_l, akS4_l]; rfl)) (by omega)) (Zm.zr (n := b + 1) (hZ.le (m := b + 1) (by omega)) (th_l (x := b + 1) hb (r := 0) (by first | rfl | (simp only [List.length_append, List.length_cons, List.length_nil, mS_l, tdS_l, txS_l, rdS4_l, hdS_l, fiS_l, rkS_l, akS4_l]; rfl)) (by omega))) ?_
  refine r_putr dX1_init_9 fpX1_9 (th_g hb) (by decide) (show 3 < 6 by decide) (by omega) (by omega) rfl (th_s (rs2 := [-1, -1, -1, b + 1, -1, -1]) hb rfl) ?_
  refine r_aload_n dX1_init_12 rfl (by omega) ?_
  refine r_bipush dX1_init_13 (by decide) (by decide) ?_
  refine r_newa (n := 12) (t := 20) dX1_init_15 rfl (Or.inl rfl) ac_int rfl (by first | decide | omega) (by first | decide | omega) th_a (th_l (x := b + 2) hb (r := 1) (by first | rfl | (simp only [List.length_append, List.length_cons, List.length_nil, mS_l, tdS_l, txS_l, rdS4_l, hdS_l, fiS_l, rkS_l, akS4_l]; rfl)) (by omega)) (Zm.zr (n := b + 2) (hZ.le (m := b + 2) (by omega)) (th_l (x := b + 2) hb (r := 1) (by first | rfl | (simp only [List.length_append, List.length_cons, List.length_nil, mS_l, tdS_l, txS_l, rdS4_l, hdS_l, fiS_l, rkS_l, akS4_l]; rfl)) (by omega))) ?_
  refine r_putr dX1_init_17 fpX1_15 (th_g hb) (by decide) (show 4 < 6 by decide) (by omega) (by omega) rfl (th_s (rs2 := [-1, -1, -1, b + 1, b + 2, -1]) hb rfl) ?_
  refine r_aload_n dX1_init_20 rfl (by omega) ?_
  refine r_bipush dX1_init_21 (by decide) (by decide) ?_
  refine r_newa (n := 8) (t := 20) dX1_init_23 rfl (Or.inl rfl) ac_int rfl (by first | decide | omega) (by first | decide | omega) th_a (th_l (x := b + 3) hb (r := 2) (by first | rfl | (simp only [List.length_append, List.length_cons, List.length_nil, mS_l, tdS_l, txS_l, rdS4_l, hdS_l, fiS_l, rkS_l, akS4_l]; rfl)) (by omega)) (Zm.zr (n := b + 3) (hZ.le (m := b + 3) (by omega)) (th_l (x := b + 3) hb (r := 2) (by first | rfl | (simp only [List.length_append, List.length_cons, List.length_nil, mS_l, tdS_l, txS_l, rdS4_l, hdS_l, fiS_l, rkS_l, akS4_l]; rfl)) (by omega))) ?_
  refine r_putr dX1_init_25 fpX1_18 (th_g hb) (by decide) (show 5 < 6 by decide) (by omega) (by omega) rfl (th_s (rs2 := [-1, -1, -1, b + 1, b + 2, b + 3]) hb rfl) ?_
  exact r_ret0 dX1_init_28 rfl ⟨rfl, (show _ = S0 ++ fiS b from rfl).trans hS, rfl⟩
theorem i_X5 {S0 S' : Sh} {M : Me} {b : Int} (hb : (S0.length : Int) = b) (hZ : Zm M b) (hS : S0 ++ rkS b = S') : Con kX5_init 1 2 18 [(1, b)] (S0 ++ [(5, 2, List.replicate 2 (-1))]) M (Ex none S' (M)) := by
  have b0 : 0 ≤ b := by omega
  refine Con.ofV (al := [(1, b)]) 0 (by decide) (Nat.le_of_ble_eq_true rfl) rfl ?_
  refine r_aload_n dX5_init_0 rfl (by omega) ?_
  refine r_objI dX5_init_1 clX5_3 oi_1 oi_2 (by omega) (by decide) (by decide) ?_
  refine r_aload_n dX5_init_4 rfl (by omega) ?_
  refine r_bipush dX5_init_5 (by decide) (by decide) ?_
  refine r_newa (n := 12) (t := 20) dX5_init_7 rfl (Or.inl rfl) ac_int rfl (by first | decide | omega) (by first | decide | omega) th_a (th_l (x := b + 1) hb (r := 0) (by first | rfl | (simp only [List.length_append, List.length_cons, List.length_nil, mS_l, tdS_l, txS_l, rdS4_l, hdS_l, fiS_l, rkS_l, akS4_l]; rfl)) (by omega)) (Zm.zr (n := b + 1) (hZ.le (m := b + 1) (by omega)) (th_l (x := b + 1) hb (r := 0) (by first | rfl | (simp only [List.length_append, List.length_cons, List.length_nil, mS_l, tdS_l, txS_l, rdS4_l, hdS_l, fiS_l, rkS_l, akS4_l]; rfl)) (by omega))) ?_
  refine r_putr dX5_init_9 fpX5_9 (th_g hb) (by decide) (show 0 < 2 by decide) (by omega) (by omega) rfl (th_s (rs2 := [b + 1, -1]) hb rfl) ?_
  refine r_aload_n dX5_init_12 rfl (by omega) ?_
  refine r_bipush dX5_init_13 (by decide) (by decide) ?_
  refine r_newa (n := 6) (t := 20) dX5_init_15 rfl (Or.inl rfl) ac_int rfl (by first | decide | omega) (by first | decide | omega) th_a (th_l (x := b + 2) hb (r := 1) (by first | rfl | (simp only [List.length_append, List.length_cons, List.length_nil, mS_l, tdS_l, txS_l, rdS4_l, hdS_l, fiS_l, rkS_l, akS4_l]; rfl)) (by omega)) (Zm.zr (n := b + 2) (hZ.le (m := b + 2) (by omega)) (th_l (x := b + 2) hb (r := 1) (by first | rfl | (simp only [List.length_append, List.length_cons, List.length_nil, mS_l, tdS_l, txS_l, rdS4_l, hdS_l, fiS_l, rkS_l, akS4_l]; rfl)) (by omega))) ?_
  refine r_putr dX5_init_17 fpX5_15 (th_g hb) (by decide) (show 1 < 2 by decide) (by omega) (by omega) rfl (th_s (rs2 := [b + 1, b + 2]) hb rfl) ?_
  exact r_ret0 dX5_init_20 rfl ⟨rfl, (show _ = S0 ++ rkS b from rfl).trans hS, rfl⟩
theorem i_X0 {S0 S' : Sh} {M : Me} {b : Int} (hb : (S0.length : Int) = b) (hZ : Zm M b) (hS : S0 ++ akS4 b = S') : Con kX0_init 1 1 64 [(1, b)] (S0 ++ [(0, 2, List.replicate 2 (-1))]) M (Ex none S' (M)) := by
  have b0 : 0 ≤ b := by omega
  refine Con.ofV (al := [(1, b)]) 0 (by decide) (Nat.le_of_ble_eq_true rfl) rfl ?_
  refine r_aload_n dX0_init_0 rfl (by omega) ?_
  refine r_objI dX0_init_1 clX0_3 oi_1 oi_2 (by omega) (by decide) (by decide) ?_
  refine r_aload_n dX0_init_4 rfl (by omega) ?_
  refine r_bipush dX0_init_5 (by decide) (by decide) ?_
  refine r_newa (n := 64) (t := 20) dX0_init_7 rfl (Or.inl rfl) ac_int rfl (by first | decide | omega) (by first | decide | omega) th_a (th_l (x := b + 1) hb (r := 0) (by first | rfl | (simp only [List.length_append, List.length_cons, List.length_nil, mS_l, tdS_l, txS_l, rdS4_l, hdS_l, fiS_l, rkS_l, akS4_l]; rfl)) (by omega)) (Zm.zr (n := b + 1) (hZ.le (m := b + 1) (by omega)) (th_l (x := b + 1) hb (r := 0) (by first | rfl | (simp only [List.length_append, List.length_cons, List.length_nil, mS_l, tdS_l, txS_l, rdS4_l, hdS_l, fiS_l, rkS_l, akS4_l]; rfl)) (by omega))) ?_
  refine r_putr dX0_init_9 fpX0_9 (th_g hb) (by decide) (show 0 < 2 by decide) (by omega) (by omega) rfl (th_s (rs2 := [b + 1, -1]) hb rfl) ?_
  exact r_ret0 dX0_init_12 rfl ⟨rfl, (show _ = S0 ++ akS4 b from rfl).trans hS, rfl⟩
theorem i_X8 {S0 S' : Sh} {M : Me} {b : Int} (hb : (S0.length : Int) = b) (hZ : Zm M b) (hS : S0 ++ txS b = S') : Con kX8_init 1 7 402 [(1, b)] (S0 ++ [(8, 6, List.replicate 6 (-1))]) M (Ex none S' (M)) := by
  have b0 : 0 ≤ b := by omega
  refine Con.ofV (al := [(1, b)]) 0 (by decide) (Nat.le_of_ble_eq_true rfl) rfl ?_
  refine r_aload_n dX8_init_0 rfl (by omega) ?_
  refine r_objI dX8_init_1 clX8_3 oi_1 oi_2 (by omega) (by decide) (by decide) ?_
  refine r_aload_n dX8_init_4 rfl (by omega) ?_
  refine r_iconst dX8_init_5 (by decide) ?_
  refine r_newa (n := 3) (t := 20) dX8_init_6 rfl (Or.inl rfl) ac_int rfl (by first | decide | omega) (by first | decide | omega) th_a (th_l (x := b + 1) hb (r := 0) (by first | rfl | (simp only [List.length_append, List.length_cons, List.length_nil, mS_l, tdS_l, txS_l, rdS4_l, hdS_l, fiS_l, rkS_l, akS4_l]; rfl)) (by omega)) (Zm.zr (n := b + 1) (hZ.le (m := b + 1) (by omega)) (th_l (x := b + 1) hb (r := 0) (by first | rfl | (simp only [List.length_append, List.length_cons, List.length_nil, mS_l, tdS_l, txS_l, rdS4_l, hdS_l, fiS_l, rkS_l, akS4_l]; rfl)) (by omega))) ?_
  refine r_putr dX8_init_8 fpX8_9 (th_g hb) (by decide) (show 2 < 6 by decide) (by omega) (by omega) rfl (th_s (rs2 := [-1, -1, b + 1, -1, -1, -1]) hb rfl) ?_
  refine r_aload_n dX8_init_11 rfl (by omega) ?_
  refine r_sipush dX8_init_12 (by decide) (by decide) ?_
  refine r_newa (n := 300) (t := 20) dX8_init_15 rfl (Or.inl rfl) ac_int rfl (by first | decide | omega) (by first | decide | omega) th_a (th_l (x := b + 2) hb (r := 1) (by first | rfl | (simp only [List.length_append, List.length_cons, List.length_nil, mS_l, tdS_l, txS_l, rdS4_l, hdS_l, fiS_l, rkS_l, akS4_l]; rfl)) (by omega)) (Zm.zr (n := b + 2) (hZ.le (m := b + 2) (by omega)) (th_l (x := b + 2) hb (r := 1) (by first | rfl | (simp only [List.length_append, List.length_cons, List.length_nil, mS_l, tdS_l, txS_l, rdS4_l, hdS_l, fiS_l, rkS_l, akS4_l]; rfl)) (by omega))) ?_
  refine r_putr dX8_init_17 fpX8_15 (th_g hb) (by decide) (show 3 < 6 by decide) (by omega) (by omega) rfl (th_s (rs2 := [-1, -1, b + 1, b + 2, -1, -1]) hb rfl) ?_
  refine r_aload_n dX8_init_20 rfl (by omega) ?_
  refine r_bipush dX8_init_21 (by decide) (by decide) ?_
  refine r_newa (n := 24) (t := 20) dX8_init_23 rfl (Or.inl rfl) ac_int rfl (by first | decide | omega) (by first | decide | omega) th_a (th_l (x := b + 3) hb (r := 2) (by first | rfl | (simp only [List.length_append, List.length_cons, List.length_nil, mS_l, tdS_l, txS_l, rdS4_l, hdS_l, fiS_l, rkS_l, akS4_l]; rfl)) (by omega)) (Zm.zr (n := b + 3) (hZ.le (m := b + 3) (by omega)) (th_l (x := b + 3) hb (r := 2) (by first | rfl | (simp only [List.length_append, List.length_cons, List.length_nil, mS_l, tdS_l, txS_l, rdS4_l, hdS_l, fiS_l, rkS_l, akS4_l]; rfl)) (by omega))) ?_
  refine r_putr dX8_init_25 fpX8_18 (th_g hb) (by decide) (show 4 < 6 by decide) (by omega) (by omega) rfl (th_s (rs2 := [-1, -1, b + 1, b + 2, b + 3, -1]) hb rfl) ?_
  refine r_aload_n dX8_init_28 rfl (by omega) ?_
  refine r_iconst dX8_init_29 (by decide) ?_
  refine r_bipush dX8_init_30 (by decide) (by decide) ?_
  refine r_mna dX8_init_32 klX8_21 (Zm.all (n := b + 4) (hZ.le (m := b + 4) (by omega)) (th_l (x := b + 4) hb (r := 3) (by first | rfl | (simp only [List.length_append, List.length_cons, List.length_nil, mS_l, tdS_l, txS_l, rdS4_l, hdS_l, fiS_l, rkS_l, akS4_l]; rfl)) (by omega))) (th_l (x := b + 4) hb (r := 3) (by first | rfl | (simp only [List.length_append, List.length_cons, List.length_nil, mS_l, tdS_l, txS_l, rdS4_l, hdS_l, fiS_l, rkS_l, akS4_l]; rfl)) (by omega)) (by decide) th_a ?_
  refine r_putr dX8_init_36 fpX8_23 (th_g hb) (by decide) (show 5 < 6 by decide) (by omega) (by omega) rfl (th_s (rs2 := [-1, -1, b + 1, b + 2, b + 3, b + 4]) hb rfl) ?_
  exact r_ret0 dX8_init_39 rfl ⟨rfl, (show _ = S0 ++ txS b from rfl).trans hS, rfl⟩
