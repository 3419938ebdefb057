/-! a field is put, an element is read, an element is put -/
def FP (own nm : String) (index ci j : Nat) : Prop := ∃ (C : String) (T : u_T) (N : Nat), vwCl[ci]? = some (C, T, N) ∧ j < N ∧ Cond.fieldLink own index C (T j).2.1 (T j).2.2.1 ∈ gw ∧ (T j).1 = C ∧ ((T j).2.2.2 = false ∨ ((T j).2.2.2 = true ∧ nm = "<init>" ∧ C = own))
section MPUT
variable {p : Program} {l : Launch} {e : Env} {R : Room} {s : State} {m : MethodId} {args : Array Value} {below : List Frame} {meth : Method} {c : Code} {H : Heap} {locs : List Loc} {cells slots : Nat} {Q : State → Prop}
variable {cc : ByteArray} {pc : Nat} {ls : Array Slot} {rest : List Value} {D : va_G} {A : Nat → Prop} {a : Nat} {ws : va_W} {H0 : Heap}
theorem mput {own nm : String} {index ci j : Nat} {κ : Nat → ClassId} (hexec : p.tables.exec = Jvm.exec) (hb : c.code = cc) (hts : ∀ w, w ∈ gw → w.before args s = true) (fp : FP own nm index ci j) (hnm : meth.name = nm) (hown : s.vm.findClass own = some m.cls) (hK : KK κ D s) (hP : va_P D vwCl ws H) (hD : va_D A ws) (hS0 : va_S A H0 H locs) (q0 : Nat) {fs : List Value} (he : ws[q0]? = some (a, .inr (ci, fs))) {v : Value} (hn : narrow (tyX ci j) v = v) (hfit : fits (tyX ci j) v = true) (hl : j < fs.length)
    (hdg : decode cc pc = .ok (.putfield index, 3)) (kk : ∀ (H1 : Heap) (locs1 : List Loc), va_P D vwCl (ws.set q0 (a, .inr (ci, fs.set j v))) H1 → H1.size = H.size → va_S A H0 H1 locs1 → W p l e R s m args below meth c H1 locs1 cells slots Q (F0 m (pc + 3) ls rest)) : W p l e R s m args below meth c H locs cells slots Q (F0 m pc ls (v :: .ref a :: rest)) := by
  obtain ⟨C, T, N, f1, hk, f3, f4, f5⟩ := fp
  have hin : ∀ w ∈ u_ws C T N, w ∈ gw := cl_ws _ _ _ _ f1
  have hd := cl_ty _ _ _ _ f1 j hk
  have hap := va_apart (own := own) hts hin (tyX ci) (cl_ty _ _ _ _ f1) (cl_nm _ _ _ _ f1) hK.K0 f1
  obtain ⟨r, h1, cell, q1, q2, q3, q4⟩ := hP q0 _ he
  have hr : r = (C, T, N) := Option.some.inj (h1.symm.trans f1)
  subst hr
  obtain ⟨hS, hfc, kC, hkC, hkind⟩ := hK.1 ci _ f1
  obtain ⟨cf, kf, fi, f, hi, hsl⟩ := hS j hk
  have hlay := hts _ (hin _ (u_in_lay hk))
  unfold u_lay at hlay
  have hst := (u_facts hfc hkC (u_lays hts hin hk) hi).1
  rcases f5 with hfin | ⟨hfin, hin2, hdecl⟩
  · rw [if_neg (by rw [hfin]; decide)] at hlay
    have h6 := u_store hfc hkC hkind hlay hi hd hn hfit
    refine W.putK hexec hb (f := f) ⟨hown, hts _ f3, ⟨_, _, _, (by rw [f4] at hi; exact hi)⟩, hst⟩ (by rw [q2]; exact h6) q1 q3 (by rw [hsl]; exact k2_hasslot (q4 j hk)) rfl rfl hdg fun H' e1 e2 e3 => ?_
    rw [hsl] at e1 ⊢
    exact kk H' _ (hP.set hD he ⟨_, f1, t_OB.to (V := updV (vp_V fs) j v) ⟨_, e1, q2, q3, t_set q4 hap hk v⟩ (fun j9 _ => vp_updV_set hl v j9)⟩ e3) e2 (hS0.put e2 e3 (hD.2 q0 _ he))
  · rw [if_pos hfin] at hlay
    have hcf : m.cls = cf := by
      obtain ⟨_, _, c', _, _, _, -, -, hf', -, -, -, hown2, -⟩ := Cond.laysFinal_spec hlay
      have e1 : c' = cf := by have := hi.symm.trans hf'; simp at this; exact this.1.symm
      rw [f4, hdecl] at hown2
      rw [← e1]; exact Option.some.inj (hown.symm.trans hown2)
    have h6 := u_fits hfc hkC hkind (Or.inr hlay) hi hd hn hfit
    refine W.putFinK hexec hb hown (hts _ f3) (by rw [f4] at hi; exact hi) hst hcf (hnm.trans hin2) (by rw [q2]; exact h6) q1 q3 (by rw [hsl]; exact k2_hasslot (q4 j hk)) rfl rfl hdg fun H' e1 e2 e3 => ?_
    rw [hsl] at e1 ⊢
    exact kk H' _ (hP.set hD he ⟨_, f1, t_OB.to (V := updV (vp_V fs) j v) ⟨_, e1, q2, q3, t_set q4 hap hk v⟩ (fun j9 _ => vp_updV_set hl v j9)⟩ e3) e2 (hS0.put e2 e3 (hD.2 q0 _ he))
end MPUT
theorem tg_i {ty : FieldType} (h : tgOf ty = 0) : ty = .int := by cases ty <;> first | rfl | cases h
theorem tg_z {ty : FieldType} (h : tgOf ty = 5) : ty = .boolean := by cases ty <;> first | rfl | cases h
theorem tg_l {ty : FieldType} (h : tgOf ty = 2) : ty = .long := by cases ty <;> first | rfl | cases h
theorem tg_r {ty : FieldType} (h : tgOf ty = 1) : (∃ C, ty = .object C) ∨ ∃ t, ty = .array t := by
  cases ty <;> first | exact Or.inl ⟨_, rfl⟩ | exact Or.inr ⟨_, rfl⟩ | cases h
section STORE
variable {k : MI} {c1 c2 dd : Nat} {xs : Option (List Int)} {Q : Option AV → Sh → Me → Prop} {pc tgt i index ci j : Nat} {al al' st : List AV} {S S' : Sh} {M M' : Me} {n1 n2 : Nat} {a x y z r v : Int} {off : Int} {n t : Nat} {rs : List Int}
theorem put0 {tg : Nat} {w : AV} (d : decode k.2.1 pc = .ok (.putfield index, 3)) (fp : FP k.1.cls k.1.name index ci j) (hS : S[a.toNat]? = some (ci, n, rs)) (hj : j < n) (ha : 0 ≤ a) (ht : fT ci j = tg) (ht1 : tg ≠ 1) (hcv : ∀ (b : Nat) (sc : Nat → Nat), cv b sc w = cf b tg v 0) (hok : okA w → okv tg v)
    (hn : ∀ b sc, narrow (tyX ci j) (cv b sc w) = cv b sc w) (hfit : ∀ b sc, fits (tyX ci j) (cv b sc w) = true)
    (hM : up M a j v = M') (kk : V k c1 c2 dd xs Q (pc + 3) al st S M' n1 n2) : V k c1 c2 dd xs Q pc al (w :: (1, a) :: st) S M n1 n2 := by
  subst hM
  intro p l e R s m args below meth c b κ D sc Tg H locs ls Cc F hn12 hW hL ho hS9
  obtain ⟨⟨hx, hb, hml, hown, hnm, hlk⟩, hts, hR, hb0, hK, hN, hSt, hSc⟩ := id Cc
  have h12 : ci < 12 := by obtain ⟨C, T, N, f1, -⟩ := fp; exact cl_lt f1
  have he := toW_at (b := b) (κ := κ) (M := M) hS
  rw [ent_o h12, Int.toNat_of_nonneg ha] at he
  rw [List.map_cons, List.map_cons, cv_ref ha]
  refine mput (j := j) (ws := toW b κ S M) (D := D) hx hb hts fp hnm hown hK hW.1 (toW_D _ _ _ _) hS9 a.toNat he (hn b sc) (hfit b sc) (by rw [flds_len]; exact hj) d (fun H1 locs1 hP1 hz hS1 => ?_)
  refine kk p l e R s m args below meth c b κ D sc Tg H1 locs1 ls Cc F hn12 ?_ hL ⟨ho.1, (ok2 ho.2).2.2⟩ hS1
  refine Wd_up hW ha hS (Int.natCast_nonneg j) ?_ ?_ hz
  · unfold elT
    rw [if_pos h12, Int.toNat_natCast, ht]
    exact hok (ok2 ho.2).1
  · rw [ent_o h12, flds_up (q := (ci, n, rs)) (by rw [ht]; exact ht1)]
    dsimp only at hP1 ⊢
    rw [ht, ← hcv b sc]
    exact hP1
theorem r_puti (d : decode k.2.1 pc = .ok (.putfield index, 3)) (fp : FP k.1.cls k.1.name index ci j) (hS : S[a.toNat]? = some (ci, n, rs)) (hj : j < n) (ha : 0 ≤ a) (ht : fT ci j = 0) (hM : up M a j v = M') (kk : V k c1 c2 dd xs Q (pc + 3) al st S M' n1 n2) : V k c1 c2 dd xs Q pc al ((0, v) :: (1, a) :: st) S M n1 n2 := by
  have hty : tyX ci j = .int := by
    obtain ⟨C, T, N, f1, f2, -⟩ := fp
    exact tg_i ((cl_tag _ _ _ _ f1 j f2).symm.trans ht)
  exact put0 (tg := 0) d fp hS hj ha ht (by decide) (fun _ _ => rfl) (fun h => ⟨fun _ => h.1 rfl, fun h => (by cases h), fun h => (by cases h)⟩) (fun b sc => by rw [hty]; rfl) (fun b sc => by rw [hty]; rfl) hM kk
theorem r_putl (d : decode k.2.1 pc = .ok (.putfield index, 3)) (fp : FP k.1.cls k.1.name index ci j) (hS : S[a.toNat]? = some (ci, n, rs)) (hj : j < n) (ha : 0 ≤ a) (ht : fT ci j = 2) (hM : up M a j v = M') (kk : V k c1 c2 dd xs Q (pc + 3) al st S M' n1 n2) : V k c1 c2 dd xs Q pc al ((2, v) :: (1, a) :: st) S M n1 n2 := by
  have hty : tyX ci j = .long := by
    obtain ⟨C, T, N, f1, f2, -⟩ := fp
    exact tg_l ((cl_tag _ _ _ _ f1 j f2).symm.trans ht)
  exact put0 (tg := 2) d fp hS hj ha ht (by decide) (fun _ _ => rfl) (fun h => ⟨fun h => (by cases h), fun h => (by cases h), fun _ => h.2 rfl⟩) (fun b sc => by rw [hty]; rfl) (fun b sc => by rw [hty]; rfl) hM kk
theorem nz (v : Int) (h : 0 ≤ v ∧ v ≤ 1) : narrow .boolean (.int (Int32.ofInt v)) = .int (Int32.ofInt v) ∧ fits .boolean (.int (Int32.ofInt v)) = true := by
  rcases (show v = 0 ∨ v = 1 by omega) with rfl | rfl <;> exact ⟨rfl, rfl⟩
theorem r_putz (d : decode k.2.1 pc = .ok (.putfield index, 3)) (fp : FP k.1.cls k.1.name index ci j) (hS : S[a.toNat]? = some (ci, n, rs)) (hj : j < n) (ha : 0 ≤ a) (ht : fT ci j = 5) (h01 : 0 ≤ v ∧ v ≤ 1) (hM : up M a j v = M') (kk : V k c1 c2 dd xs Q (pc + 3) al st S M' n1 n2) : V k c1 c2 dd xs Q pc al ((0, v) :: (1, a) :: st) S M n1 n2 := by
  have hty : tyX ci j = .boolean := by
    obtain ⟨C, T, N, f1, f2, -⟩ := fp
    exact tg_z ((cl_tag _ _ _ _ f1 j f2).symm.trans ht)
  exact put0 (tg := 5) d fp hS hj ha ht (by decide) (fun _ _ => rfl) (fun _ => ⟨fun h => (by cases h), fun _ => h01, fun h => (by cases h)⟩) (fun b sc => by rw [hty]; exact (nz v h01).1) (fun b sc => by rw [hty]; exact (nz v h01).2) hM kk
theorem r_putr (d : decode k.2.1 pc = .ok (.putfield index, 3)) (fp : FP k.1.cls k.1.name index ci j) (hS : S[a.toNat]? = some (ci, n, rs)) (hj : j < n) (hj2 : j < rs.length) (ha : 0 ≤ a) (hv : 0 ≤ v) (ht : fT ci j = 1) (hS' : setR S a.toNat j v = S') (kk : V k c1 c2 dd xs Q (pc + 3) al st S' M n1 n2) : V k c1 c2 dd xs Q pc al ((1, v) :: (1, a) :: st) S M n1 n2 := by
  subst hS'
  have hty : (∃ C, tyX ci j = .object C) ∨ ∃ t, tyX ci j = .array t := by
    obtain ⟨C, T, N, f1, f2, -⟩ := fp
    exact tg_r ((cl_tag _ _ _ _ f1 j f2).symm.trans ht)
  intro p l e R s m args below meth c b κ D sc Tg H locs ls Cc F hn12 hW hL ho hS9
  obtain ⟨⟨hx, hb, hml, hown, hnm, hlk⟩, hts, hR, hb0, hK, hN, hSt, hSc⟩ := id Cc
  have h12 : ci < 12 := by obtain ⟨C, T, N, f1, -⟩ := fp; exact cl_lt f1
  have he := toW_at (b := b) (κ := κ) (M := M) hS
  rw [ent_o h12, Int.toNat_of_nonneg ha] at he
  rw [List.map_cons, List.map_cons, cv_ref ha, cv_ref hv]
  refine mput (j := j) (ws := toW b κ S M) (D := D) hx hb hts fp hnm hown hK hW.1 (toW_D _ _ _ _) hS9 a.toNat he ?_ ?_ (by rw [flds_len]; exact hj) d (fun H1 locs1 hP1 hz hS1 => ?_)
  · rcases hty with ⟨C, h⟩ | ⟨t, h⟩ <;> rw [h] <;> rfl
  · rcases hty with ⟨C, h⟩ | ⟨t, h⟩ <;> rw [h] <;> rfl
  refine kk p l e R s m args below meth c b κ D sc Tg H1 locs1 ls Cc F hn12 ?_ hL ⟨ho.1, (ok2 ho.2).2.2⟩ hS1
  refine Wd_setR hW hS ?_ hz
  rw [ent_o (q := (ci, n, rs.set j v)) h12, flds_rs (q := (ci, n, rs)) ht hj2]
  dsimp only at hP1 ⊢
  rw [Int.toNat_of_nonneg ha]
  have e : va_rf (rfo b v) = .ref (b + v.toNat) := by unfold rfo; rw [if_neg (by omega)]; rfl
  rw [e]
  exact hP1
/-! elements -/
theorem ent_i {b : Nat} {κ : Nat → ClassId} {q : Nat × Nat × List Int} {f : Int → Int} (h : q.1 = 20 ∨ q.1 = 21) : ent b κ q f = .inl (κ q.1, q.2.1, .inl (fun j : Nat => Int32.ofInt (f j))) := by
  unfold ent; rw [if_neg (by omega), if_neg (by omega), if_pos h]
theorem ent_l {b : Nat} {κ : Nat → ClassId} {q : Nat × Nat × List Int} {f : Int → Int} (h : q.1 = 22) : ent b κ q f = .inl (κ q.1, q.2.1, .inr (.inl (fun j : Nat => Int64.ofInt (f j)))) := by
  unfold ent; rw [if_neg (by omega), if_pos h]
theorem ent_q {b : Nat} {κ : Nat → ClassId} {q : Nat × Nat × List Int} {f : Int → Int} (h : 23 ≤ q.1) : ent b κ q f = .inl (κ q.1, q.2.1, .inr (.inr (.inr (.inr (fun j : Nat => rfo b (q.2.2.getD j (-1))))))) := by
  unfold ent; rw [if_neg (by omega), if_neg (by omega), if_neg (by omega)]
theorem r_iald (d : decode k.2.1 pc = .ok (.iaload, 1)) (hS : S[a.toNat]? = some (20, n, rs)) (ha : 0 ≤ a) (hi : y < n) (hy : 0 ≤ y) (hn : n < 2147483648) (hx : M a y = x) (kk : V k c1 c2 dd xs Q (pc + 1) al ((0, x) :: st) S M n1 n2) : V k c1 c2 dd xs Q pc al ((0, y) :: (1, a) :: st) S M n1 n2 := by
  subst hx
  intro p l e R s m args below meth c b κ D sc Tg H locs ls Cc F hn12 hW hL ho hS9
  obtain ⟨⟨hx, hb, hml, hown, hnm, hlk⟩, hts, hR, hb0, hK, hN, hSt, hSc⟩ := id Cc
  have he := toW_at (b := b) (κ := κ) (M := M) hS
  rw [ent_i (Or.inl rfl), Int.toNat_of_nonneg ha] at he
  have hv := Wd_okv hW hS ha hy hi
  rw [List.map_cons, List.map_cons, cv_ref ha]
  refine va_iald (D := D) hx hb (hK.K1 (t := 20) (by decide) (by decide)) hW.1 a.toNat 0 he rfl (i := Int32.ofInt y) (oI_vin hy hi hn) d ?_
  rw [oI_clamp hy (by omega), Int.toNat_of_nonneg hy]
  exact kk p l e R s m args below meth c b κ D sc Tg H locs ls Cc F hn12 hW hL ⟨ho.1, okL_cons.mpr ⟨okA_i (hv.1 rfl), (ok2 ho.2).2.2⟩⟩ hS9
theorem r_lald (d : decode k.2.1 pc = .ok (.laload, 1)) (hS : S[a.toNat]? = some (22, n, rs)) (ha : 0 ≤ a) (hi : y < n) (hy : 0 ≤ y) (hn : n < 2147483648) (hx : M a y = x) (kk : V k c1 c2 dd xs Q (pc + 1) al ((2, x) :: st) S M n1 n2) : V k c1 c2 dd xs Q pc al ((0, y) :: (1, a) :: st) S M n1 n2 := by
  subst hx
  intro p l e R s m args below meth c b κ D sc Tg H locs ls Cc F hn12 hW hL ho hS9
  obtain ⟨⟨hx, hb, hml, hown, hnm, hlk⟩, hts, hR, hb0, hK, hN, hSt, hSc⟩ := id Cc
  have he := toW_at (b := b) (κ := κ) (M := M) hS
  rw [ent_l rfl, Int.toNat_of_nonneg ha] at he
  have hv := Wd_okv hW hS ha hy hi
  rw [List.map_cons, List.map_cons, cv_ref ha]
  refine va_lald (D := D) hx hb (hK.K1 (t := 22) (by decide) (by decide)) hW.1 a.toNat 0 he rfl (i := Int32.ofInt y) (oI_vin hy hi hn) d ?_
  rw [oI_clamp hy (by omega), Int.toNat_of_nonneg hy]
  exact kk p l e R s m args below meth c b κ D sc Tg H locs ls Cc F hn12 hW hL ⟨ho.1, okL_cons.mpr ⟨okA_l (hv.2.2 rfl), (ok2 ho.2).2.2⟩⟩ hS9
theorem r_zald (d : decode k.2.1 pc = .ok (.baload, 1)) (hS : S[a.toNat]? = some (21, n, rs)) (ha : 0 ≤ a) (hi : y < n) (hy : 0 ≤ y) (hn : n < 2147483648) (hx : M a y = x) (kk : V k c1 c2 dd xs Q (pc + 1) al ((0, x) :: st) S M n1 n2) : V k c1 c2 dd xs Q pc al ((0, y) :: (1, a) :: st) S M n1 n2 := by
  subst hx
  intro p l e R s m args below meth c b κ D sc Tg H locs ls Cc F hn12 hW hL ho hS9
  obtain ⟨⟨hx, hb, hml, hown, hnm, hlk⟩, hts, hR, hb0, hK, hN, hSt, hSc⟩ := id Cc
  have he := toW_at (b := b) (κ := κ) (M := M) hS
  rw [ent_i (Or.inr rfl), Int.toNat_of_nonneg ha] at he
  have hv := Wd_okv hW hS ha hy hi
  have hv1 := hv.2.1 rfl
  rw [List.map_cons, List.map_cons, cv_ref ha]
  refine va_zald (D := D) hx hb (hK.K1 (t := 21) (by decide) (by decide)) hW.1 a.toNat 0 he rfl (i := Int32.ofInt y) (oI_vin hy hi hn) d ?_
  rw [oI_clamp hy (by omega), Int.toNat_of_nonneg hy]
  exact kk p l e R s m args below meth c b κ D sc Tg H locs ls Cc F hn12 hW hL ⟨ho.1, okL_cons.mpr ⟨okA_i (by omega), (ok2 ho.2).2.2⟩⟩ hS9
theorem r_aald (d : decode k.2.1 pc = .ok (.aaload, 1)) (hS : S[a.toNat]? = some (t, n, rs)) (ht1 : 23 ≤ t) (ht2 : t < 26) (ha : 0 ≤ a) (hi : y < n) (hy : 0 ≤ y) (hn : n < 2147483648) (hx : rs.getD y.toNat (-1) = x) (kk : V k c1 c2 dd xs Q (pc + 1) al ((1, x) :: st) S M n1 n2) : V k c1 c2 dd xs Q pc al ((0, y) :: (1, a) :: st) S M n1 n2 := by
  subst hx
  intro p l e R s m args below meth c b κ D sc Tg H locs ls Cc F hn12 hW hL ho hS9
  obtain ⟨⟨hx, hb, hml, hown, hnm, hlk⟩, hts, hR, hb0, hK, hN, hSt, hSc⟩ := id Cc
  have he := toW_at (b := b) (κ := κ) (M := M) hS
  rw [ent_q ht1] at he
  rw [List.map_cons, List.map_cons, cv_ref ha]
  have hin := oI_vin hy hi hn
  have hlt : (Int32.ofInt y).toNatClampNeg < n := Nat.not_le.mp fun q => hin (Or.inr q)
  refine W.aald (v := va_rf (rfo b (rs.getD y.toNat (-1)))) (ty := tyT t) hx hb (hW.1 a.toNat _ he) ((hK.2.1 t (by omega) ht2).1 n (fun j => va_rf (rfo b (rs.getD j (-1))))) (by
      rcases (show t = 23 ∨ t = 24 ∨ t = 25 by omega) with rfl | rfl | rfl <;> rfl) (fun q => by cases q) (by show ¬ (Int32.ofInt y < 0 ∨ (arrV _ _ _).slots.size ≤ _); rw [arrV_size]; exact hin) (by show (arrV _ _ _).slots[_]? = _; rw [arrV_read _ _ hlt, oI_clamp hy (by omega)]) rfl rfl d ?_
  exact kk p l e R s m args below meth c b κ D sc Tg H locs ls Cc F hn12 hW hL ⟨ho.1, okL_cons.mpr ⟨okA_r, (ok2 ho.2).2.2⟩⟩ hS9
theorem r_iast (d : decode k.2.1 pc = .ok (.iastore, 1)) (hS : S[a.toNat]? = some (20, n, rs)) (ha : 0 ≤ a) (hi : y < n) (hy : 0 ≤ y) (hn : n < 2147483648) (hM : up M a y v = M') (kk : V k c1 c2 dd xs Q (pc + 1) al st S M' n1 n2) : V k c1 c2 dd xs Q pc al ((0, v) :: (0, y) :: (1, a) :: st) S M n1 n2 := by
  subst hM
  intro p l e R s m args below meth c b κ D sc Tg H locs ls Cc F hn12 hW hL ho hS9
  obtain ⟨⟨hx, hb, hml, hown, hnm, hlk⟩, hts, hR, hb0, hK, hN, hSt, hSc⟩ := id Cc
  have he := toW_at (b := b) (κ := κ) (M := M) hS
  have e1 : ∀ f : Int → Int, ent b κ (20, n, rs) f = .inl (κ 20, n, .inl (fun j : Nat => Int32.ofInt (f j))) := fun f => ent_i (q := (20, n, rs)) (Or.inl rfl)
  have hv := (okL_cons.mp ho.2).1.1 rfl
  rw [e1, Int.toNat_of_nonneg ha] at he
  rw [List.map_cons, List.map_cons, List.map_cons, cv_ref ha]
  refine W.iast hx hb (hW.1 a.toNat _ he) ((hK.2.1 20 (by decide) (by decide)).1 n (fun j => .int (Int32.ofInt (M a j)))) (fun q => by cases q) (by show ¬ (Int32.ofInt y < 0 ∨ (arrV _ _ _).slots.size ≤ _); rw [arrV_size]; exact oI_vin hy hi hn) rfl rfl d fun H1 e9 z oq => ?_
  refine kk p l e R s m args below meth c b κ D sc Tg H1 _ ls Cc F hn12 (Wd_up (q := (20, n, rs)) hW ha hS hy ⟨fun _ => hv, fun h => (by cases h), fun h => (by cases h)⟩ ?_ z) hL ⟨ho.1, (okL_cons.mp (ok2 ho.2).2.2).2⟩ (hS9.put z oq (Nat.le_add_right _ _))
  refine hW.1.set (toW_D _ _ _ _) he ?_ oq
  rw [e1]
  show H1[b + a.toNat]? = some (vp_cell _ _)
  rw [e9]
  rw [vp_cell_i, vp_cell_i, arrV_store]
  congr 2
  funext j
  rw [oI_clamp hy (by omega)]
  by_cases hj : j = y.toNat
  · subst hj
    unfold up
    rw [if_pos ⟨rfl, Int.toNat_of_nonneg hy⟩]
    simp [updV]
  · have : ¬ (j : Int) = y := by omega
    simp [updV, up, hj, this]
theorem r_last (d : decode k.2.1 pc = .ok (.lastore, 1)) (hS : S[a.toNat]? = some (22, n, rs)) (ha : 0 ≤ a) (hi : y < n) (hy : 0 ≤ y) (hn : n < 2147483648) (hM : up M a y v = M') (kk : V k c1 c2 dd xs Q (pc + 1) al st S M' n1 n2) : V k c1 c2 dd xs Q pc al ((2, v) :: (0, y) :: (1, a) :: st) S M n1 n2 := by
  subst hM
  intro p l e R s m args below meth c b κ D sc Tg H locs ls Cc F hn12 hW hL ho hS9
  obtain ⟨⟨hx, hb, hml, hown, hnm, hlk⟩, hts, hR, hb0, hK, hN, hSt, hSc⟩ := id Cc
  have he := toW_at (b := b) (κ := κ) (M := M) hS
  have e1 : ∀ f : Int → Int, ent b κ (22, n, rs) f = .inl (κ 22, n, .inr (.inl (fun j : Nat => Int64.ofInt (f j)))) := fun f => ent_l (q := (22, n, rs)) rfl
  have hv := (okL_cons.mp ho.2).1.2 rfl
  rw [e1, Int.toNat_of_nonneg ha] at he
  rw [List.map_cons, List.map_cons, List.map_cons, cv_ref ha]
  refine W.last hx hb (hW.1 a.toNat _ he) ((hK.2.1 22 (by decide) (by decide)).1 n (fun j => .long (Int64.ofInt (M a j)))) (fun q => by cases q) (by show ¬ (Int32.ofInt y < 0 ∨ (arrV _ _ _).slots.size ≤ _); rw [arrV_size]; exact oI_vin hy hi hn) rfl rfl d fun H1 e9 z oq => ?_
  refine kk p l e R s m args below meth c b κ D sc Tg H1 _ ls Cc F hn12 (Wd_up (q := (22, n, rs)) hW ha hS hy ⟨fun h => (by cases h), fun h => (by cases h), fun _ => hv⟩ ?_ z) hL ⟨ho.1, (okL_cons.mp (ok2 ho.2).2.2).2⟩ (hS9.put z oq (Nat.le_add_right _ _))
  refine hW.1.set (toW_D _ _ _ _) he ?_ oq
  rw [e1]
  show H1[b + a.toNat]? = some (vp_cell _ _)
  rw [e9]
  rw [vp_cell_l, vp_cell_l, arrV_store]
  congr 2
  funext j
  rw [oI_clamp hy (by omega)]
  by_cases hj : j = y.toNat
  · subst hj
    unfold up
    rw [if_pos ⟨rfl, Int.toNat_of_nonneg hy⟩]
    simp [updV]
  · have : ¬ (j : Int) = y := by omega
    simp [updV, up, hj, this]
theorem r_zast (d : decode k.2.1 pc = .ok (.bastore, 1)) (hS : S[a.toNat]? = some (21, n, rs)) (ha : 0 ≤ a) (hi : y < n) (hy : 0 ≤ y) (hn : n < 2147483648) (h01 : 0 ≤ v ∧ v ≤ 1) (hM : up M a y v = M') (kk : V k c1 c2 dd xs Q (pc + 1) al st S M' n1 n2) : V k c1 c2 dd xs Q pc al ((0, v) :: (0, y) :: (1, a) :: st) S M n1 n2 := by
  subst hM
  intro p l e R s m args below meth c b κ D sc Tg H locs ls Cc F hn12 hW hL ho hS9
  obtain ⟨⟨hx, hb, hml, hown, hnm, hlk⟩, hts, hR, hb0, hK, hN, hSt, hSc⟩ := id Cc
  have he := toW_at (b := b) (κ := κ) (M := M) hS
  have e1 : ∀ f : Int → Int, ent b κ (21, n, rs) f = .inl (κ 21, n, .inl (fun j : Nat => Int32.ofInt (f j))) := fun f => ent_i (q := (21, n, rs)) (Or.inr rfl)
  have hv := (okL_cons.mp ho.2).1.1 rfl
  rw [e1, Int.toNat_of_nonneg ha] at he
  rw [List.map_cons, List.map_cons, List.map_cons, cv_ref ha]
  refine W.zast hx hb (hW.1 a.toNat _ he) ((hK.2.1 21 (by decide) (by decide)).1 n (fun j => .int (Int32.ofInt (M a j)))) (fun q => by cases q) (by show ¬ (Int32.ofInt y < 0 ∨ (arrV _ _ _).slots.size ≤ _); rw [arrV_size]; exact oI_vin hy hi hn) rfl rfl d fun H1 e9 z oq => ?_
  refine kk p l e R s m args below meth c b κ D sc Tg H1 _ ls Cc F hn12 (Wd_up (q := (21, n, rs)) hW ha hS hy ⟨fun h => (by cases h), fun _ => h01, fun h => (by cases h)⟩ ?_ z) hL ⟨ho.1, (okL_cons.mp (ok2 ho.2).2.2).2⟩ (hS9.put z oq (Nat.le_add_right _ _))
  refine hW.1.set (toW_D _ _ _ _) he ?_ oq
  rw [e1]
  show H1[b + a.toNat]? = some (vp_cell _ _)
  have hnz : narrow .boolean (Value.int (Int32.ofInt v)) = Value.int (Int32.ofInt v) := (nz v h01).1
  rw [e9]
  rw [vp_cell_i, vp_cell_i]
  have hnz2 : narrow .boolean (Value.int (Int32.ofInt (0, v).2)) = Value.int (Int32.ofInt v) := hnz
  rw [hnz2, arrV_store]
  congr 2
  funext j
  rw [oI_clamp hy (by omega)]
  by_cases hj : j = y.toNat
  · subst hj
    unfold up
    rw [if_pos ⟨rfl, Int.toNat_of_nonneg hy⟩]
    simp [updV]
  · have : ¬ (j : Int) = y := by omega
    simp [updV, up, hj, this]
theorem r_alen (d : decode k.2.1 pc = .ok (.arraylength, 1)) (hS : S[a.toNat]? = some (t, n, rs)) (ht1 : 20 ≤ t) (ht2 : t < 26) (ha : 0 ≤ a) (hn : n < 2147483648) (hx : (n : Int) = x) (kk : V k c1 c2 dd xs Q (pc + 1) al ((0, x) :: st) S M n1 n2) : V k c1 c2 dd xs Q pc al ((1, a) :: st) S M n1 n2 := by
  subst hx
  intro p l e R s m args below meth c b κ D sc Tg H locs ls Cc F hn12 hW hL ho hS9
  obtain ⟨⟨hx, hb, hml, hown, hnm, hlk⟩, hts, hR, hb0, hK, hN, hSt, hSc⟩ := id Cc
  have he := toW_at (b := b) (κ := κ) (M := M) hS
  obtain ⟨q, hq, hq1⟩ : ∃ q : vp_A, ent b κ (t, n, rs) (M (a.toNat : Int)) = .inl (κ t, q) ∧ q.1 = n := by
    by_cases h : t = 20 ∨ t = 21
    · exact ⟨_, ent_i (q := (t, n, rs)) h, rfl⟩
    · by_cases h2 : t = 22
      · exact ⟨_, ent_l (q := (t, n, rs)) h2, rfl⟩
      · exact ⟨_, ent_q (q := (t, n, rs)) (show 23 ≤ t by omega), rfl⟩
  rw [hq] at he
  rw [List.map_cons, cv_ref ha]
  exact va_alen (D := D) hx hb (hK.K1 ht1 ht2) hW.1 a.toNat 0 he rfl (v := Int32.ofInt (n : Int)) (by rw [hq1]; rfl) d (kk p l e R s m args below meth c b κ D sc Tg H locs ls Cc F hn12 hW hL ⟨ho.1, okL_cons.mpr ⟨okA_i (by omega), (okL_cons.mp ho.2).2⟩⟩ hS9)
/-! the script -/
theorem r_sld {lx : List Int} (d : decode k.2.1 pc = .ok (.iaload, 1)) (hi : y < lx.length) (hy : 0 ≤ y) (hx : lx.getD y.toNat 0 = x) (kk : V k c1 c2 dd (some lx) Q (pc + 1) al ((0, x) :: st) S M n1 n2) : V k c1 c2 dd (some lx) Q pc al ((0, y) :: (3, 0) :: st) S M n1 n2 := by
  subst hx
  intro p l e R s m args below meth c b κ D sc Tg H locs ls Cc F hn12 hW hL ho hS9
  obtain ⟨⟨hx, hb, hml, hown, hnm, hlk⟩, hts, hR, hb0, hK, hN, hSt, hSc⟩ := id Cc
  obtain ⟨s1, s2, s3, s4, s5⟩ := hSc lx rfl
  have hin := oI_vin hy hi s4
  refine va_sld (i := Int32.ofInt y) hx hb s1 s2 (Nat.not_le.mpr s3) hS9 hin d ?_
  rw [oI_clamp hy (by omega)]
  have hmem : lx.getD y.toNat 0 ∈ lx := by
    rw [List.getD_eq_getElem?_getD, List.getElem?_eq_getElem (show y.toNat < lx.length by omega)]
    exact List.getElem_mem _
  exact kk p l e R s m args below meth c b κ D sc Tg H locs ls Cc F hn12 hW hL ⟨ho.1, okL_cons.mpr ⟨okA_i (s5 _ hmem), (ok2 ho.2).2.2⟩⟩ hS9
theorem r_slen {lx : List Int} (d : decode k.2.1 pc = .ok (.arraylength, 1)) (kk : V k c1 c2 dd (some lx) Q (pc + 1) al ((0, (lx.length : Int)) :: st) S M n1 n2) : V k c1 c2 dd (some lx) Q pc al ((3, 0) :: st) S M n1 n2 := by
  intro p l e R s m args below meth c b κ D sc Tg H locs ls Cc F hn12 hW hL ho hS9
  obtain ⟨⟨hx, hb, hml, hown, hnm, hlk⟩, hts, hR, hb0, hK, hN, hSt, hSc⟩ := id Cc
  obtain ⟨s1, s2, s3, s4, s5⟩ := hSc lx rfl
  exact va_slen hx hb s1 s2 (Nat.not_le.mpr s3) hS9 d (kk p l e R s m args below meth c b κ D sc Tg H locs ls Cc F hn12 hW hL ⟨ho.1, okL_cons.mpr ⟨okA_i (by omega), (okL_cons.mp ho.2).2⟩⟩ hS9)
end STORE
