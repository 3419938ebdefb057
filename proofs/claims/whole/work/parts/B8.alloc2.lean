section ALLOC2
variable {k : MI} {c1 c2 dd : Nat} {xs : Option (List Int)} {Q : Option AV → Sh → Me → Prop} {pc index t n ci N N2 : Nat} {al st : List AV} {S S' : Sh} {M : Me} {n1 n2 : Nat} {a v y : Int} {rs rs2 : List Int} {C : String} {T : u_T}
set_option maxHeartbeats 2000000 in
/-- an object is put into a row of objects -/
theorem r_qast (d : decode k.2.1 pc = .ok (.aastore, 1)) (hS : S[a.toNat]? = some (t, n, rs)) (ht : t = 23 ∧ C = RX8 ∨ t = 24 ∧ C = RX3) (hc : vwCl[ci]? = some (C, T, N)) (hV : S[v.toNat]? = some (ci, N2, rs2)) (ha : 0 ≤ a) (hv : 0 ≤ v) (hi : y < n) (hy : 0 ≤ y) (hn : n < 2147483648) (hrs : rs.length = n) (hS' : setR S a.toNat y.toNat v = S') (kk : V k c1 c2 dd xs Q (pc + 1) al st S' M n1 n2) : V k c1 c2 dd xs Q pc al ((1, v) :: (0, y) :: (1, a) :: st) S M n1 n2 := by
  subst hS'
  intro p l e R s m args below meth c b κ D sc Tg H locs ls Cc F hn12 hW hL ho hS9
  obtain ⟨⟨hx, hb, hml, hown, hnm, hlk⟩, hts, hR, hb0, hK, hN, hSt, hSc⟩ := id Cc
  have h12 := cl_lt hc
  have ht1 : 23 ≤ t := by omega
  have ht2 : t < 26 := by omega
  have hT : tyT t = .object C := by rcases ht with ⟨rfl, rfl⟩ | ⟨rfl, rfl⟩ <;> rfl
  have he := toW_at (b := b) (κ := κ) (M := M) hS
  rw [ent_q ht1] at he
  have hve := toW_at (b := b) (κ := κ) (M := M) hV
  rw [ent_o h12] at hve
  rw [List.map_cons, List.map_cons, List.map_cons, cv_ref hv, cv_ref ha]
  obtain ⟨r', hr', cellV, g1, g2, g3, -⟩ := hW.1 v.toNat _ hve
  have hcls := (hK.1 ci _ hc).2
  have h1 := (hK.2.1 t (by omega) ht2).2
  rw [hT] at h1
  obtain ⟨kA, comp, k1, k2, k3, -⟩ := h1
  have hcomp : comp = D.1 ci := Option.some.inj (k3.symm.trans hcls.1)
  subst hcomp
  obtain ⟨kC, hkC, -⟩ := hcls.2
  have hlt : (Int32.ofInt y).toNatClampNeg < n := by rw [oI_clamp hy (by omega)]; omega
  refine W.aast hx hb (hW.1 a.toNat _ he) (fun q h => by cases h) (fun h => by cases h) k1 k2 rfl hkC ⟨oI_nneg hy (by omega), by show _ < (arrV _ _ _).slots.size; rw [arrV_size]; exact hlt⟩ g1 (fun q h => by rw [g3] at h; cases h) (by rw [g2]; exact hkC) (by rw [g2]; exact va_assign hcls) rfl rfl d fun H1 e9 z oq => ?_
  refine kk p l e R s m args below meth c b κ D sc Tg H1 _ ls Cc F hn12 (Wd_setR hW hS ?_ z) hL ⟨ho.1, (okL_cons.mp (ok2 ho.2).2.2).2⟩ (hS9.put z oq (Nat.le_add_right _ _))
  refine hW.1.set (toW_D _ _ _ _) he ?_ oq
  rw [ent_q ht1]
  show H1[b + a.toNat]? = some (vp_cell _ _)
  rw [e9]
  rw [vp_cell_q, vp_cell_q, arrV_store]
  congr 2
  funext j
  rw [oI_clamp hy (by omega)]
  by_cases hj : j = y.toNat
  · subst hj
    have e1 : (rs.set y.toNat v).getD y.toNat (-1) = v := by
      rw [List.getD_eq_getElem?_getD, List.getElem?_set_self (by omega)]; rfl
    show updV _ _ _ _ = va_rf (rfo b ((rs.set y.toNat v).getD y.toNat (-1)))
    rw [e1]
    simp [updV, rfo, Int.not_lt.mpr hv, va_rf]
  · have e1 : (rs.set y.toNat v).getD j (-1) = rs.getD j (-1) := by
      rw [List.getD_eq_getElem?_getD, List.getD_eq_getElem?_getD, List.getElem?_set_ne (Ne.symm hj)]
    show updV _ _ _ _ = va_rf (rfo b ((rs.set y.toNat v).getD j (-1)))
    rw [e1]
    simp [updV, hj]
theorem mna_W {b : Nat} {κ : Nat → ClassId} {D : va_G} {H H1 : Heap} (hW : Wd b κ D S M H) (hz : ∀ x j : Int, (S.length : Int) ≤ x → M x j = 0) (f1 : H1.size = H.size + 1 + 3) (hold : ∀ x : Nat, x < H.size → H1[x]? = H[x]?) (f2 : H1[H.size]? = some (vp_cell (κ 25) (3, .inr (.inr (.inr (.inr (fun i => if i < 3 then some (H.size + 1 + i) else none))))))) (hrow : ∀ j : Nat, j < 3 → H1[H.size + 1 + j]? = some (vp_cell (κ 20) (24, .inl (fun _ => Int32.ofInt 0)))) : Wd b κ D (S ++ [(25, 3, [(S.length : Int) + 1, (S.length : Int) + 2, (S.length : Int) + 3]), (20, 24, []), (20, 24, []), (20, 24, [])]) M H1 := by
  have row : ∀ j : Nat, j < 3 → va_at D vwCl (b + (S.length + 1 + j), ent b κ (20, 24, []) (M ((S.length + 1 + j : Nat) : Int))) H1 := fun j hj => by
    have m0 : M ((S.length + 1 + j : Nat) : Int) = fun _ => 0 := funext fun i => hz _ _ (by omega)
    rw [ent_i (Or.inl rfl), m0]
    show H1[b + (S.length + 1 + j)]? = some (vp_cell _ _)
    have := hrow j hj
    rw [hW.2.1] at this
    rw [show b + (S.length + 1 + j) = b + S.length + 1 + j by omega]
    exact this
  refine ⟨fun i x hx => ?_, by rw [f1, hW.2.1, List.length_append]; rfl, fun i q hi j hj => ?_⟩
  · obtain ⟨q, hq, rfl⟩ := toW_of hx
    by_cases hi : i < S.length
    · rw [List.getElem?_append_left hi] at hq
      have := hW.1 i _ (toW_at (b := b) (κ := κ) (M := M) hq)
      exact this.kept (hold _ this.lt)
    · rw [List.getElem?_append_right (by omega)] at hq
      have h4 : i - S.length < 4 := (List.getElem?_eq_some_iff.mp hq).1
      rcases (show i = S.length ∨ i = S.length + 1 + 0 ∨ i = S.length + 1 + 1 ∨ i = S.length + 1 + 2 by omega) with e | e | e | e <;> subst e
      · rw [Nat.sub_self] at hq
        cases hq
        rw [ent_q (show 23 ≤ 25 by decide)]
        show H1[b + S.length]? = some (vp_cell _ _)
        rw [← hW.2.1, f2, vp_cell_q, vp_cell_q]
        congr 2
        funext j
        congr 1
        match j with
        | 0 => show some _ = rfo b ((S.length : Int) + 1); unfold rfo; rw [if_neg (by omega), hW.2.1]; all_goals (congr 1 <;> omega)
        | 1 => show some _ = rfo b ((S.length : Int) + 2); unfold rfo; rw [if_neg (by omega), hW.2.1]; all_goals (congr 1 <;> omega)
        | 2 => show some _ = rfo b ((S.length : Int) + 3); unfold rfo; rw [if_neg (by omega), hW.2.1]; all_goals (congr 1 <;> omega)
        | j + 3 => show (if j + 3 < 3 then _ else none) = rfo b (-1); rw [if_neg (by omega)]; rfl
      · rw [show S.length + 1 + 0 - S.length = 1 by omega] at hq
        cases hq; exact row 0 (by decide)
      · rw [show S.length + 1 + 1 - S.length = 2 by omega] at hq
        cases hq; exact row 1 (by decide)
      · rw [show S.length + 1 + 2 - S.length = 3 by omega] at hq
        cases hq; exact row 2 (by decide)
  · by_cases hl : i < S.length
    · rw [List.getElem?_append_left hl] at hi
      exact hW.2.2 i q hi j hj
    · rw [hz _ _ (by omega)]
      exact okv_0 _
theorem outC3 (c : ClassId) (N h0 : Nat) : ∀ i : Nat, Jvm.Free.Multi.outerC c N h0 i = arrV c N (fun j => va_rf (if j < i then some (h0 + 1 + j) else none)) := by
  intro i
  induction i with
  | zero =>
    show ({ cls := c, slots := Array.replicate N .null, vm := .none } : Cell) = _
    rw [arrV_new]
    exact congrArg (arrV c N) (funext fun j => by simp [va_rf])
  | succ i ih =>
    show (Jvm.Free.Multi.outerC c N h0 i).setSlot i (.ref (h0 + 1 + i)) = _
    rw [ih, arrV_store]
    refine congrArg (arrV c N) (funext fun j => ?_)
    by_cases e : j = i
    · subst e
      simp [updV, va_rf]
    · by_cases h : j < i
      · simp [updV, e, h, Nat.lt_succ_of_lt h]
      · simp [updV, e, h, show ¬ j < i + 1 by omega]
set_option maxHeartbeats 4000000 in
/-- three rows of twenty-four -/
theorem r_mna (d : decode k.2.1 pc = .ok (.multianewarray index 2, 4)) (w : Cond.classLink k.1.cls index "[[I" ∈ gw) (hz : ∀ x j : Int, (S.length : Int) ≤ x → M x j = 0) (ha : (S.length : Int) = a) (hm : n1 + 4 ≤ c1 ∧ n2 + 75 ≤ c2) (hS' : S ++ [(25, 3, [a + 1, a + 2, a + 3]), (20, 24, []), (20, 24, []), (20, 24, [])] = S') (kk : V k c1 c2 dd xs Q (pc + 4) al ((1, a) :: st) S' M (n1 + 4) (n2 + 75)) : V k c1 c2 dd xs Q pc al ((0, 24) :: (0, 3) :: st) S M n1 n2 := by
  subst hS'; subst ha
  intro p l e R s m args below meth c b κ D sc Tg H locs ls Cc F hn12 hW hL ho hS9
  obtain ⟨⟨hx, hb, hml, hown, hnm, hlk⟩, hts, ⟨hr1, hr2, hr3, hr4⟩, hb0, hK, hN, hSt, hSc⟩ := id Cc
  rw [List.map_cons, List.map_cons]
  have t3 : (Int32.ofInt 3).toNatClampNeg = 3 := rfl
  have t24 : (Int32.ofInt 24).toNatClampNeg = 24 := rfl
  intro T hT Xs
  obtain ⟨vm₁, cA, comp, -, fA, fC, -, -, X', step⟩ := Xs.multianewarray2F (ty := .int) (n := Int32.ofInt 3) (k := Int32.ofInt 24) (rest := st.map (cv b sc)) hx hown (hts _ w) hK.2.2.2.2 (hts _ ac_int) (g := F0 m pc ls (.int (Int32.ofInt 24) :: .int (Int32.ofInt 3) :: st.map (cv b sc))) rfl (by rw [hb]; exact d) rfl (by decide) (by decide) (by decide) (by decide) (by decide) rfl rfl (by rw [t3]; omega) (by rw [t3, t24]; omega)
  have c25 : cA = κ 25 := by
    have h1 : s.vm.findClass ("[" ++ (FieldType.array .int).toString) = some (κ 25) := (hK.2.1 25 (by decide) (by decide)).2
    exact Option.some.inj (fA.symm.trans h1)
  have c20 : comp = κ 20 := by
    have h1 : s.vm.findClass ("[" ++ FieldType.int.toString) = some (κ 20) := (hK.2.1 20 (by decide) (by decide)).2
    exact Option.some.inj (fC.symm.trans h1)
  subst c25; subst c20
  rw [t3, t24] at X' step
  generalize hF : Jvm.Free.Multi.fill (T.setVm vm₁) (κ 25) (κ 20) 3 24 (defaultValue .int) 3 = F1 at X' step
  have hTh : (T.setVm vm₁).heap = H := hT
  obtain ⟨f1, f2, -, -⟩ := Jvm.Free.Multi.fill_facts (T.setVm vm₁) (κ 25) (κ 20) 3 24 (defaultValue .int) 3
  rw [hF, hTh] at f1 f2
  have hold : ∀ x : Nat, x < H.size → F1.heap[x]? = H[x]? := fun x hx => by
    have := Jvm.Free.Multi.fill_old (T.setVm vm₁) (κ 25) (κ 20) 3 24 (defaultValue .int) (a := x) (by rw [hTh]; exact hx) 3
    rw [hF, hTh] at this
    exact this
  have hrow : ∀ j : Nat, j < 3 → F1.heap[H.size + 1 + j]? = some (vp_cell (κ 20) (24, .inl (fun _ => Int32.ofInt 0))) := fun j hj => by
    have := Jvm.Free.Multi.fill_inner (T.setVm vm₁) (κ 25) (κ 20) 3 24 (defaultValue .int) 3 j hj
    rw [hF, hTh] at this
    exact this
  have hW2 : Wd b κ D (S ++ [(25, 3, [(S.length : Int) + 1, (S.length : Int) + 2, (S.length : Int) + 3]), (20, 24, []), (20, 24, []), (20, 24, [])]) M F1.heap := by
    refine mna_W hW hz f1 hold ?_ hrow
    rw [f2, outC3, vp_cell_q]
  have := kk p l e R s m args below meth c b κ D sc Tg F1.heap locs ls Cc F ⟨hm.1, hm.2⟩ hW2 hL ⟨ho.1, okL_cons.mpr ⟨okA_r, (ok2 ho.2).2.2⟩⟩ ⟨by rw [f1]; have := hS9.1; omega, fun x h1 h2 => (hold x (Nat.lt_of_lt_of_le h1 hS9.1)).trans (hS9.2.1 x h1 h2), hS9.2.2⟩
  rw [List.map_cons, cv_ref (Int.natCast_nonneg _), Int.toNat_natCast, ← hW.2.1] at this
  obtain ⟨t, a1, b1⟩ := this F1 rfl X'
  refine ⟨t, step t ?_, b1⟩
  have e : T.heap.size = H.size := by rw [hT]
  rw [e]
  exact a1
end ALLOC2
