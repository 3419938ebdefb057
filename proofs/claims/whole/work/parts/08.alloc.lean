/-! new cells -/
def zr (M : Me) (a : Int) : Me := fun a' j => if a' = a then 0 else M a' j
theorem zr_at {M : Me} {a j : Int} : zr M a a j = 0 := by unfold zr; rw [if_pos rfl]
theorem zr_ne {M : Me} {a a' j : Int} (h : a' ≠ a) : zr M a a' j = M a' j := by unfold zr; rw [if_neg h]
theorem okv_0 (t : Nat) : okv t 0 := ⟨fun _ => by decide, fun _ => by decide, fun _ => by decide⟩
theorem Wd_push {b : Nat} {κ : Nat → ClassId} {D : va_G} {S : Sh} {M : Me} {H H1 : Heap} {q0 : Nat × Nat × List Int} (hW : Wd b κ D S M H) (hz : H1.size = H.size + 1) (ho : ∀ q, q < H.size → H1[q]? = H[q]?) (hat : va_at D vwCl (H.size, ent b κ q0 (fun _ => 0)) H1) : Wd b κ D (S ++ [q0]) (zr M S.length) H1 := by
  have hne : ∀ (i : Nat), i < S.length → zr M (S.length : Int) (i : Int) = M i := fun i hi => by
    funext j; exact zr_ne (by omega)
  refine ⟨fun i x hx => ?_, by rw [hz, hW.2.1, List.length_append]; rfl, fun i q hi j hj => ?_⟩
  · obtain ⟨q, hq, rfl⟩ := toW_of hx
    by_cases hi : i < S.length
    · rw [List.getElem?_append_left hi] at hq
      rw [hne i hi]
      have := hW.1 i _ (toW_at (b := b) (κ := κ) (M := M) hq)
      exact this.kept (ho _ this.lt)
    · rw [List.getElem?_append_right (by omega)] at hq
      have h0 : i - S.length < 1 := (List.getElem?_eq_some_iff.mp hq).1
      have hi2 : i = S.length := by omega
      subst hi2
      rw [Nat.sub_self] at hq
      cases hq
      have e : zr M (S.length : Int) (S.length : Int) = fun _ => 0 := by funext j; exact zr_at
      rw [e, ← hW.2.1]
      exact hat
  · by_cases hl : i < S.length
    · rw [List.getElem?_append_left hl] at hi
      rw [hne i hl]
      exact hW.2.2 i q hi j hj
    · rw [List.getElem?_append_right (by omega)] at hi
      have h0 : i - S.length < 1 := (List.getElem?_eq_some_iff.mp hi).1
      have hi2 : i = S.length := by omega
      rw [hi2, zr_at]
      exact okv_0 _
theorem vaS_push {b : Nat} {H0 H H1 : Heap} {locs : List Loc} (hS : va_S (fun q => b ≤ q) H0 H locs) (hz : H1.size = H.size + 1) (ho : ∀ q, q < H.size → H1[q]? = H[q]?) : va_S (fun q => b ≤ q) H0 H1 locs :=
  ⟨Nat.le_trans hS.1 (by omega), fun x h1 h2 => (ho x (Nat.lt_of_lt_of_le h1 hS.1)).trans (hS.2.1 x h1 h2), hS.2.2⟩
theorem tag_in : ∀ ci, ci < 12 → ∀ j, j < 40 → fT ci j = 0 ∨ fT ci j = 1 ∨ fT ci j = 2 ∨ fT ci j = 5 := by decide +kernel
section ALLOC
variable {k k' : MI} {c1 c2 dd d' e1 e2 : Nat} {xs : Option (List Int)} {Q Q' : Option AV → Sh → Me → Prop} {pc index np ci : Nat} {al as rest st : List AV} {S S' : Sh} {M M' : Me} {n1 n2 : Nat} {a x y z : Int} {t n N : Nat} {rs : List Int} {C : String} {T : u_T}
set_option maxHeartbeats 2000000 in
theorem r_new (d : decode k.2.1 pc = .ok (.new index, 3)) (hc : vwCl[ci]? = some (C, T, N)) (hN40 : N ≤ 40) (w1 : Cond.classLink k.1.cls index C ∈ gw) (w2 : Cond.instantiable C N ∈ gw) (w3 : Cond.initialized C ∈ gw) (hm : n1 + 1 ≤ c1 ∧ n2 + N ≤ c2) (hS' : S ++ [(ci, N, List.replicate N (-1))] = S') (ha : (S.length : Int) = a) (hM : zr M S.length = M')
    (kk : V k c1 c2 dd xs Q (pc + 3) al ((1, a) :: st) S' M' (n1 + 1) (n2 + N)) : V k c1 c2 dd xs Q pc al st S M n1 n2 := by
  subst hS'; subst ha; subst hM
  intro p l e R s m args below meth c b κ D sc Tg H locs ls Cc F hn12 hW hL ho hS9
  obtain ⟨⟨hx, hb, hml, hown, hnm, hlk⟩, hts, ⟨hr1, hr2, hr3, hr4⟩, hb0, hK, hN, hSt, hSc⟩ := id Cc
  have hKn := hK.1 ci _ hc
  have h12 := cl_lt hc
  refine W.newcK hx hb hown (hts _ w1) (hts _ w2) (hts _ w3) rfl d (by omega) (by omega) hKn.2.1 rfl fun H1 kC hkC e1 z1 o1 => ?_
  have hat : va_at D vwCl (H.size, ent b κ (ci, N, List.replicate N (-1)) (fun _ => 0)) H1 := by
    rw [ent_o h12]
    refine ⟨_, hc, (u_born (tyX ci) hts (cl_ws _ _ _ _ hc) hKn hkC e1 (cl_ty _ _ _ _ hc)).to ?_⟩
    intro j hj
    have htag := cl_tag _ _ _ _ hc j hj
    unfold vp_V
    rw [List.getD_eq_getElem?_getD, flds_at (q := (ci, N, List.replicate N (-1))) hj]
    dsimp only
    rw [List.getD_eq_getElem?_getD, List.getElem?_replicate, if_pos hj]
    show defaultValue (tyX ci j) = cf b (fT ci j) 0 (-1)
    rcases tag_in ci h12 j (by omega) with h | h | h | h
    · rw [h, tg_i (htag.symm.trans h)]; rfl
    · rcases tg_r (htag.symm.trans h) with ⟨C9, h9⟩ | ⟨t9, h9⟩ <;> rw [h, h9] <;> rfl
    · rw [h, tg_l (htag.symm.trans h)]; rfl
    · rw [h, tg_z (htag.symm.trans h)]; rfl
  have := kk p l e R s m args below meth c b κ D sc Tg H1 locs ls Cc F ⟨hm.1, hm.2⟩ (Wd_push hW z1 o1 hat) hL ⟨ho.1, okL_cons.mpr ⟨okA_r, ho.2⟩⟩ (vaS_push hS9 z1 o1)
  rw [List.map_cons, cv_ref (Int.natCast_nonneg _), Int.toNat_natCast, ← hW.2.1] at this
  exact this
set_option maxHeartbeats 2000000 in
theorem r_newa {atype : ArrayType} (d : decode k.2.1 pc = .ok (.newarray atype, 2)) (hty : newarray.typeOf atype = tyT t) (ht : t = 20 ∨ t = 21 ∨ t = 22) (w : Cond.arrayClass (tyT t) ∈ gw) (hn : (n : Int) = x) (hsm : n < 60000000) (hm : n1 + 1 ≤ c1 ∧ n2 + n ≤ c2) (hS' : S ++ [(t, n, [])] = S') (ha : (S.length : Int) = a) (hM : zr M S.length = M')
    (kk : V k c1 c2 dd xs Q (pc + 2) al ((1, a) :: st) S' M' (n1 + 1) (n2 + n)) : V k c1 c2 dd xs Q pc al ((0, x) :: st) S M n1 n2 := by
  subst hS'; subst ha; subst hM; subst hn
  intro p l e R s m args below meth c b κ D sc Tg H locs ls Cc F hn12 hW hL ho hS9
  obtain ⟨⟨hx, hb, hml, hown, hnm, hlk⟩, hts, ⟨hr1, hr2, hr3, hr4⟩, hb0, hK, hN, hSt, hSc⟩ := id Cc
  have hcl : (Int32.ofInt (n : Int)).toNatClampNeg = n := by rw [oI_clamp (Int.natCast_nonneg n) (by omega), Int.toNat_natCast]
  rw [List.map_cons]
  refine va_newaK hx hb (by rw [hty]; exact hts _ w) rfl d (n := Int32.ofInt (n : Int)) (rest := st.map (cv b sc)) rfl (oI_nneg (Int.natCast_nonneg n) (by omega)) hcl ?_ (by omega) (by omega) rfl fun H1 cA e1 z1 o1 hAr hNm => ?_
  · rw [hty]; rcases ht with rfl | rfl | rfl
    · show n * 4 ≤ _; omega
    · show n * 1 ≤ _; omega
    · show n * 8 ≤ _; omega
  have hcA : cA = κ t := by
    have h1 := (hK.2.1 t (by omega) (by omega)).2
    have h2 : s.vm.findClass ("[" ++ (tyT t).toString) = some (κ t) := by rcases ht with rfl | rfl | rfl <;> exact h1
    rw [hty] at hNm
    exact Option.some.inj (hNm.symm.trans h2)
  subst hcA
  have hat : va_at D vwCl (H.size, ent b κ (t, n, []) (fun _ => 0)) H1 := by
    rcases ht with rfl | rfl | rfl
    · rw [ent_i (q := (20, n, [])) (Or.inl rfl)]
      show H1[H.size]? = some (vp_cell _ _)
      rw [vp_cell_i, e1, hty]; rfl
    · rw [ent_i (q := (21, n, [])) (Or.inr rfl)]
      show H1[H.size]? = some (vp_cell _ _)
      rw [vp_cell_i, e1, hty]; rfl
    · rw [ent_l (q := (22, n, [])) rfl]
      show H1[H.size]? = some (vp_cell _ _)
      rw [vp_cell_l, e1, hty]; rfl
  have := kk p l e R s m args below meth c b κ D sc Tg H1 locs ls Cc F ⟨hm.1, hm.2⟩ (Wd_push hW z1 o1 hat) hL ⟨ho.1, okL_cons.mpr ⟨okA_r, (okL_cons.mp ho.2).2⟩⟩ (vaS_push hS9 z1 o1)
  rw [List.map_cons, cv_ref (Int.natCast_nonneg _), Int.toNat_natCast, ← hW.2.1] at this
  exact this
set_option maxHeartbeats 2000000 in
theorem r_anew (d : decode k.2.1 pc = .ok (.anewarray index, 3)) (ht : t = 23 ∧ C = RX8 ∨ t = 24 ∧ C = RX3) (w : Cond.classLink k.1.cls index C ∈ gw) (hn : (n : Int) = x) (hsm : n < 60000000) (hm : n1 + 1 ≤ c1 ∧ n2 + n ≤ c2) (hS' : S ++ [(t, n, List.replicate n (-1))] = S') (ha : (S.length : Int) = a) (hM : zr M S.length = M')
    (kk : V k c1 c2 dd xs Q (pc + 3) al ((1, a) :: st) S' M' (n1 + 1) (n2 + n)) : V k c1 c2 dd xs Q pc al ((0, x) :: st) S M n1 n2 := by
  subst hS'; subst ha; subst hM; subst hn
  intro p l e R s m args below meth c b κ D sc Tg H locs ls Cc F hn12 hW hL ho hS9
  obtain ⟨⟨hx, hb, hml, hown, hnm, hlk⟩, hts, ⟨hr1, hr2, hr3, hr4⟩, hb0, hK, hN, hSt, hSc⟩ := id Cc
  have hcl : (Int32.ofInt (n : Int)).toNatClampNeg = n := by rw [oI_clamp (Int.natCast_nonneg n) (by omega), Int.toNat_natCast]
  have hAO : va_AO C s := ht.elim (fun h => h.2 ▸ hK.2.2.1) (fun h => h.2 ▸ hK.2.2.2.1)
  have hT : tyT t = .object C := by rcases ht with ⟨rfl, rfl⟩ | ⟨rfl, rfl⟩ <;> rfl
  have ht2 : 23 ≤ t ∧ t < 26 := by omega
  rw [List.map_cons]
  refine W.anew hx hb hown (hts _ w) (va_AO.use hAO) rfl d (n := Int32.ofInt (n : Int)) (rest := st.map (cv b sc)) rfl (oI_nneg (Int.natCast_nonneg n) (by omega)) (by rw [hcl]; omega) (by omega) (by rw [hcl]; omega) fun cA kA comp f1 f2 f3 f4 => ?_
  rw [hcl]
  generalize hH1 : H.push ({ cls := cA, slots := Array.replicate n .null, vm := .none } : Cell) = H1
  have z1 : H1.size = H.size + 1 := by rw [← hH1, Array.size_push]
  have e1 : H1[H.size]? = some (arrV cA n (fun _ => .null)) := by rw [← hH1, Array.getElem?_push_size, ← arrV_new]
  have o1 : ∀ q : Nat, q < H.size → H1[q]? = H[q]? := fun q hq => by rw [← hH1, Array.getElem?_push, if_neg (Nat.ne_of_lt hq)]
  have hcA : cA = κ t := by
    have h1 := (hK.2.1 t (by omega) ht2.2).2
    rw [hT] at h1
    obtain ⟨kA9, comp9, g1, g2, g3, g4⟩ := h1
    exact Option.some.inj (f1.symm.trans g4)
  subst hcA
  have hat : va_at D vwCl (H.size, ent b κ (t, n, List.replicate n (-1)) (fun _ => 0)) H1 := by
    rw [ent_q (q := (t, n, List.replicate n (-1))) ht2.1]
    show H1[H.size]? = some (vp_cell _ _)
    rw [vp_cell_q, e1]
    dsimp only
    have : (fun j : Nat => va_rf (rfo b ((List.replicate n (-1 : Int)).getD j (-1)))) = (fun _ => Value.null) := by
      funext j
      have : (List.replicate n (-1 : Int)).getD j (-1) = -1 := by
        rw [List.getD_eq_getElem?_getD, List.getElem?_replicate]
        split <;> rfl
      rw [this]; rfl
    rw [this]
  have := kk p l e R s m args below meth c b κ D sc Tg H1 locs ls Cc F ⟨hm.1, hm.2⟩ (Wd_push hW z1 o1 hat) hL ⟨ho.1, okL_cons.mpr ⟨okA_r, (okL_cons.mp ho.2).2⟩⟩ (vaS_push hS9 z1 o1)
  rw [List.map_cons, cv_ref (Int.natCast_nonneg _), Int.toNat_natCast, ← hW.2.1] at this
  exact this
/-! constructors' calls -/
def CLi (own : String) (index : Nat) (k : MI) (n : Nat) : Prop := CLm own index k n ∧ Cond.instanceMethod k.1 ∈ gw ∧ k.1.name = "<init>" ∧ k.2.2.2 = none
def CLn (own : String) (index : Nat) (k : MI) (n : Nat) : Prop := (∃ host, Cond.methodLinkNest own index k.1 host ∈ lw_tbl) ∧ Cond.instanceMethod k.1 ∈ gw ∧ k.1.name = "<init>" ∧ k.2.2.2 = none ∧ Cond.initialized k.1.cls ∈ gw ∧ Cond.code k.1 k.2.1 k.2.2.1 k.2.2.2 ∈ gw ∧ k.2.2.1 ≤ 50 ∧ k.1.cls ≠ "java/lang/invoke/MethodHandle" ∧ k.1.cls ≠ "java/lang/invoke/VarHandle" ∧ (parseMethodDescriptor k.1.desc).map (fun d => d.parameters.length) = some n
set_option maxHeartbeats 2000000 in
theorem r_callI (as rest : List AV) (d : decode k.2.1 pc = .ok (.invokespecial index, 3)) (hl : CLi k.1.cls index k' np ∨ CLn k.1.cls index k' np) (ha : 0 ≤ a) (hd : d' + 1 ≤ dd) (hn : as.length = np) (h8 : cS rest ≤ 8) (hm : n1 + e1 ≤ c1 ∧ n2 + e2 ≤ c2)
    (hM : Con k' d' e1 e2 ((1, a) :: as) S M Q')
    (kk : ∀ v S' M', Q' v S' M' → V k c1 c2 dd xs Q (pc + 3) al rest S' M' (n1 + e1) (n2 + e2)) : V k c1 c2 dd xs Q pc al (as.reverse ++ (1, a) :: rest) S M n1 n2 := by
  intro p l e R s m args below meth c b κ D sc Tg H locs ls Cc F hn12 hW hL ho hS
  obtain ⟨⟨hx, hb, hml, hown, hnm, hlk⟩, hts, ⟨hr1, hr2, hr3, hr4⟩, hb0, hK, hN, hSt, hSc⟩ := id Cc
  have hoa : okL ((1, a) :: as) := by
    refine okL_cons.mpr ⟨okA_r, fun v hv => ho.2 v (List.mem_append_left _ (List.mem_reverse.mpr hv))⟩
  have hM1 := hM l b κ D sc hoa
  have hk0 : k'.2.2.2 = none := hl.elim (fun h => h.2.2.2) (fun h => h.2.2.2.1)
  have hrun : va_Run p l e R s m args below meth c H locs n1 n2 e1 e2 (F0 m pc ls ((as.reverse ++ (1, a) :: rest).map (cv b sc))) (rest.map (cv b sc)) (fun st oc t => (∃ (v : Option AV) (S' : Sh) (M' : Me), oc = .returned (v.map (cv b sc)) ∧ Q' v S' M' ∧ okR k'.2.2.2 v ∧ Wd b κ D S' M' t.heap) ∧ va_F (fun q => b ≤ q) st t) (fun q => b ≤ q) := by
    have hp : PreS s H (va_Pc (((1, a) :: as).map (cv b sc)) (fun U => b ≤ U.heap.size ∧ Wd b κ D S M U.heap ∧ KK κ D U ∧ NW U ∧ StF sc (fun q => b ≤ q) U U.heap)) (.ref (b + a.toNat) :: as.map (cv b sc)) := ⟨pc_blind, by
      have := pc_at (av := ((1, a) :: as).map (cv b sc)) hb0 hW hK hN hSt hS
      rw [List.map_cons, cv_ref ha] at this ⊢
      exact this⟩
    have hst : (F0 m pc ls ((as.reverse ++ (1, a) :: rest).map (cv b sc))).stack = (as.map (cv b sc)).reverse ++ .ref (b + a.toNat) :: rest.map (cv b sc) := by
      show (as.reverse ++ (1, a) :: rest).map (cv b sc) = _
      rw [List.map_append, List.map_cons, cv_ref ha, List.map_reverse]
    rcases hl with ⟨⟨l1, l2, l3, l4, l5, l6, l7⟩, l8, l9, l10⟩ | ⟨⟨host, l1⟩, l8, l9, l10, l2, l3, l4, l5, l6, l7⟩
    · have cw := cwI (R := R) (s := s) (args := args) (own := k.1.cls) (index := index) (y := k'.1) (bytes := k'.2.1) (maxL := k'.2.2.1) (ws := gwOf k') (ws' := gw) (rm := { frames := d', cells := e1, slots := e2, locals := 70 * d' }) (mc := e1) (ms := e2) np hts (gwOf_good l3) (by unfold gwOf; rw [l10]) rfl rfl (hts _ l2) (hts _ l1) (hts _ l8) l9 ⟨l5, l6, l7⟩ ⟨by show d' + 1 ≤ R.frames; omega, by show 8 + (k'.2.2.1 + 11) + 70 * d' ≤ R.locals; omega⟩
      exact va_runI (As := as.map (cv b sc)) (rest := rest.map (cv b sc)) (b := b + a.toNat) (H := H) (locs := locs) (cells := n1) (slots := n2) (m := m) (g := F0 m pc ls ((as.reverse ++ (1, a) :: rest).map (cv b sc))) (p := p) (e := e) (below := below) (meth := meth) ⟨hx, hb, hml, hown, hts⟩ hM1 cw hp rfl (by rw [List.length_map]; exact hn) hL.1 hst (lv_room (by rw [cS_eq]; exact h8)) d ⟨by omega, by omega⟩
    · have cw := va_cnB (R := R) (s := s) (args := args) (own := k.1.cls) (host := host) (index := index) (y := k'.1) (bytes := k'.2.1) (maxL := k'.2.2.1) (ret := none) (ws := gwOf k') (ws' := gw) (rm := { frames := d', cells := e1, slots := e2, locals := 70 * d' }) (mc := e1) (ms := e2) np hts (gwOf_good l3) (by unfold gwOf; rw [l10]) rfl rfl (hN _ l1 ⟨_, _, _, _, rfl⟩) (hts _ l2) ⟨l5, l6, l7⟩ ⟨by show d' + 1 ≤ R.frames; omega, by show 8 + (k'.2.2.1 + 11) + 70 * d' ≤ R.locals; omega⟩
      exact va_runIN (As := as.map (cv b sc)) (rest := rest.map (cv b sc)) (b := b + a.toNat) (H := H) (locs := locs) (cells := n1) (slots := n2) (m := m) (g := F0 m pc ls ((as.reverse ++ (1, a) :: rest).map (cv b sc))) (p := p) (e := e) (below := below) (meth := meth) ⟨hx, hb, hml, hown, hts⟩ hM1 ⟨cw, l9, hts _ l8⟩ hp rfl (by rw [List.length_map]; exact hn) hL.1 hst (lv_room (by rw [cS_eq]; exact h8)) d ⟨by omega, by omega⟩
  refine run_go hrun hS (fun st v t _ h => h.2) ?_
  rintro v0 st t0 H1 locs1 ⟨⟨v, S', M', e9, q1, q2, q3⟩, -⟩ hH1 hS1
  have e9 := Outcome.returned.inj e9
  subst e9
  rw [hH1] at q3
  rw [hk0] at q2
  have hv0 : v = none := q2
  subst hv0
  exact kk none S' M' q1 p l e R s m args below meth c b κ D sc Tg H1 locs1 ls Cc F ⟨hm.1, hm.2⟩ q3 hL ⟨ho.1, fun w hw => ho.2 w (List.mem_append_right _ (List.mem_cons_of_mem _ hw))⟩ hS1
theorem r_objI (d : decode k.2.1 pc = .ok (.invokespecial index, 3)) (w1 : Cond.methodLink k.1.cls index objectInit ∈ gw) (w2 : Cond.instanceMethod objectInit ∈ gw) (w3 : Cond.code objectInit ⟨#[0xb1]⟩ 1 none ∈ gw) (ha : 0 ≤ a) (hd : 1 ≤ dd) (h8 : cS st ≤ 8) (kk : V k c1 c2 dd xs Q (pc + 3) al st S M n1 n2) : V k c1 c2 dd xs Q pc al ((1, a) :: st) S M n1 n2 := by
  intro p l e R s m args below meth c b κ D sc Tg H locs ls Cc F hn12 hW hL ho hS
  obtain ⟨⟨hx, hb, hml, hown, hnm, hlk⟩, hts, ⟨hr1, hr2, hr3, hr4⟩, hb0, hK, hN, hSt, hSc⟩ := id Cc
  rw [List.map_cons, cv_ref ha]
  refine W.objInit hx hb hown (hts _ w1) (hts _ w2) (hts _ w3) rfl (by rw [hml]; exact hL.1) (rest := st.map (cv b sc)) rfl d (by omega) (by
    have := cS_eq b sc st
    show 2 * 0 + ((st.map (cv b sc)).map fun v => v.category).sum + 12 ≤ R.locals
    omega) ?_
  exact kk p l e R s m args below meth c b κ D sc Tg H locs ls Cc F hn12 hW hL ⟨ho.1, (okL_cons.mp ho.2).2⟩ hS
end ALLOC
