def slotsOf : List AV → List AV
  | [] => []
  | v :: l => if v.1 = 2 then v :: (9, 0) :: slotsOf l else v :: slotsOf l
def lc0 (k : MI) (av : List AV) : List AV := slotsOf av
theorem cv_cat (b : Nat) (sc : Nat → Nat) (v : AV) : (cv b sc v).category = if v.1 = 2 then 2 else 1 := by
  obtain ⟨t, x⟩ := v
  unfold cv
  by_cases h0 : t = 0
  · subst h0; rfl
  · by_cases h2 : t = 2
    · subst h2; rfl
    · by_cases h3 : t = 3
      · subst h3; rfl
      · simp only [h0, h2, h3, if_false]
        cases rfo b x <;> rfl
theorem lg_len (b : Nat) (sc : Nat → Nat) (av : List AV) : (lg_sl (av.map (cv b sc))).length = (slotsOf av).length := by
  induction av with
  | nil => rfl
  | cons v l ih =>
    unfold lg_sl at ih ⊢
    unfold slotsOf
    rw [List.map_cons, List.flatMap_cons, List.length_append, ih, cv_cat]
    by_cases h : v.1 = 2
    · rw [if_pos h, if_pos rfl, if_pos h]; simp; omega
    · rw [if_neg h, if_neg (by decide), if_neg h]; simp; omega
theorem lc_in (b : Nat) (sc : Nat → Nat) (av : List AV) : ∀ (n i : Nat) (v : AV), (slotsOf av)[i]? = some v → v.1 ≠ 9 → (n + i, cv b sc v) ∈ lv_args n (av.map (cv b sc)) := by
  induction av with
  | nil => intro n i v h; simp [slotsOf] at h
  | cons w l ih =>
    intro n i v h h9
    rw [List.map_cons]
    unfold lv_args
    rw [cv_cat]
    unfold slotsOf at h
    by_cases hw : w.1 = 2
    · rw [if_pos hw] at h
      rw [if_pos hw, if_pos rfl]
      match i, h with
      | 0, h => cases h; exact List.mem_cons_self
      | 1, h => cases h; exact absurd rfl h9
      | i + 2, h =>
        have := ih (n + 2) i v h h9
        rw [show n + (i + 2) = n + 2 + i by omega]
        exact List.mem_cons_of_mem _ this
    · rw [if_neg hw] at h
      rw [if_neg hw, if_neg (by decide)]
      match i, h with
      | 0, h => cases h; exact List.mem_cons_self
      | i + 1, h =>
        have := ih (n + 1) i v h h9
        rw [show n + (i + 1) = n + 1 + i by omega]
        exact List.mem_cons_of_mem _ this
/-- unset places of the locals -/
def jk (n : Nat) : List AV := List.replicate n (9, 0)
theorem LH.jk {b : Nat} {sc : Nat → Nat} {ls : Array Slot} {nL : Nat} {al : List AV} (h : LH b sc ls nL al) (n : Nat) : LH b sc ls nL (al ++ jk n) := by
  refine ⟨h.1, h.2.1, fun i v hi h9 => ?_⟩
  by_cases hl : i < al.length
  · rw [List.getElem?_append_left hl] at hi
    exact h.2.2 i v hi h9
  · rw [List.getElem?_append_right (by omega)] at hi
    have := List.mem_of_getElem? hi
    rw [List.eq_of_mem_replicate this] at h9
    exact absurd rfl h9
theorem okL_slots {av : List AV} (h : okL av) : okL (slotsOf av) := by
  induction av with
  | nil => exact okL_nil
  | cons v l ih =>
    have h2 := okL_cons.mp h
    unfold slotsOf
    split
    · exact okL_cons.mpr ⟨h2.1, okL_cons.mpr ⟨⟨fun q => absurd q (show ¬ (9 : Nat) = 0 by decide), fun q => absurd q (show ¬ (9 : Nat) = 2 by decide)⟩, ih h2.2⟩⟩
    · exact okL_cons.mpr ⟨h2.1, ih h2.2⟩
theorem okL_app {a c : List AV} (h1 : okL a) (h2 : okL c) : okL (a ++ c) := fun v hv => (List.mem_append.mp hv).elim (h1 v) (h2 v)
theorem okL_jk (n : Nat) : okL (jk n) := fun v hv => by
  rw [List.eq_of_mem_replicate hv]
  exact ⟨fun q => absurd q (show ¬ (9 : Nat) = 0 by decide), fun q => absurd q (show ¬ (9 : Nat) = 2 by decide)⟩
set_option maxHeartbeats 4000000 in
/-- a method's contract from its body -/
theorem Con.ofV {k : MI} {dd c1 c2 : Nat} {av al : List AV} {S : Sh} {M : Me} {Q : Option AV → Sh → Me → Prop} (j : Nat) (hp : plainName k.1.cls = true) (hsz : (slotsOf av).length ≤ k.2.2.1) (hal : slotsOf av ++ jk j = al) (h : V k c1 c2 dd none Q 0 al [] S M 0 0) : Con k dd c1 c2 av S M Q := by
  intro l b κ D sc ho
  subst hal
  refine Met.ofW (cc := k.2.1) (maxL := k.2.2.1) (ret := k.2.2.2) hp rfl ?_
  intro p e s m args below meth c s₁ B hml hv
  obtain ⟨rfl, hb0, hW, hKK, hNW, hSt⟩ := hv
  have hx := B.exec
  have hb := B.bytes
  have hr := B.returns
  have hts := atoms_spec (ws := gwOf k) B.pre
  have hown : s.vm.findClass k.1.cls = some m.cls := findClass_of_methodNamed B.named
  have hlocks := B.notSynchronized
  have hin : meth.name = k.1.name := (name_of_methodNamed B.named B.method).1
  have hl := lv_entry (av.map (cv b sc)) (n := k.2.2.1) (by rw [lg_len]; exact hsz)
  rw [lg_entry_eq]
  generalize (lg_sl (av.map (cv b sc)) ++ List.replicate (k.2.2.1 - (lg_sl (av.map (cv b sc))).length) Slot.unset).toArray = ls at hl ⊢
  have hL : LH b sc ls k.2.2.1 (slotsOf av) := ⟨hl.1, hl.2.1, fun i v hi h9 => by
    have := lc_in b sc av 0 i v hi h9
    rw [Nat.zero_add] at this
    exact hl.2.2 _ this⟩
  refine h p l e (headSpec (gwOf k) { frames := dd, cells := c1, slots := c2, locals := 70 * dd }).room s m ((av.map (cv b sc)).toArray) below meth c b κ D sc _ s.heap [] ls ⟨⟨hx, hb, hml, hown, hin, hlocks⟩, fun w hw => hts w (List.mem_cons_of_mem _ hw), ⟨Nat.le_refl _, Nat.le_refl _, rfl, rfl⟩, hb0, hKK, hNW, hSt, fun l hl => by cases hl⟩ ?_ ⟨Nat.zero_le _, Nat.zero_le _⟩ hW (hL.jk j) ⟨okL_app (okL_slots ho) (okL_jk j), okL_nil⟩ va_S.rf
  intro v S' M' H locs n1 n2 ls' pc h1 h2 hQ hW' hS hok hd
  refine W.widen h1 h2 ?_
  obtain ⟨y, code, nL, ret⟩ := k
  dsimp only at hr hd hok hb ⊢
  have fin : ∀ (t : State) (vv : Option Value), vv = v.map (cv b sc) → t.heap = H → (fun (_ : Array Value) (st : State) (oc : Outcome) (t : State) => (∃ (v : Option AV) (S' : Sh) (M' : Me), oc = .returned (v.map (cv b sc)) ∧ Q v S' M' ∧ okR ret v ∧ Wd b κ D S' M' t.heap) ∧ va_F (fun q => b ≤ q) st t) (av.map (cv b sc)).toArray s (.returned vv) t := by
    intro t vv hvv ht
    exact ⟨⟨v, S', M', by rw [hvv], hQ, hok, by rw [ht]; exact hW'⟩, hS.F ht⟩
  match ret, hr, hd, hok, fin with
  | none, hr, hd, hok, fin =>
    have hv : v = none := hok
    subst hv
    exact W.vret hx hb hr (fun t ht _ => fin t _ rfl ht) hS.2.2 hd hlocks
  | some .int, hr, hd, hok, fin =>
    obtain ⟨x, rfl, -⟩ := hok
    exact W.iret hx hb hr (fun t ht _ => fin t _ rfl ht) hS.2.2 hd hlocks
  | some .boolean, hr, hd, hok, fin =>
    obtain ⟨x, rfl, hx1, hx2⟩ := hok
    refine W.zret hx hb hr ?_ (fun t ht _ => fin t _ rfl ht) hS.2.2 hd hlocks
    rcases (show x = 0 ∨ x = 1 by omega) with rfl | rfl <;> rfl
  | some .char, hr, hd, hok, fin =>
    obtain ⟨x, rfl, hx1, hx2⟩ := hok
    refine W.zret hx hb hr ?_ (fun t ht _ => fin t _ rfl ht) hS.2.2 hd hlocks
    obtain ⟨n, rfl⟩ : ∃ n : Nat, x = (n : Int) := ⟨x.toNat, by omega⟩
    have : Int32.ofInt (n : Int) = nI n := rfl
    rw [this]
    exact (pk_charN (by omega)).1
  | some .long, hr, hd, hok, fin =>
    obtain ⟨x, rfl, -⟩ := hok
    exact W.lret hx hb hr (fun t ht _ => fin t _ rfl ht) hS.2.2 hd hlocks
  | some (.object C), hr, hd, hok, fin =>
    obtain ⟨x, rfl⟩ := hok
    refine W.aret hx hb hr (Or.inl ⟨_, rfl⟩) ?_ (fun t ht _ => fin t _ rfl ht) hS.2.2 hd hlocks
    show va_rf (rfo b x) = .null ∨ ∃ a, va_rf (rfo b x) = .ref a
    cases rfo b x with
    | none => exact Or.inl rfl
    | some a => exact Or.inr ⟨a, rfl⟩
  | some (.array C), hr, hd, hok, fin =>
    obtain ⟨x, rfl⟩ := hok
    refine W.aret hx hb hr (Or.inr ⟨_, rfl⟩) ?_ (fun t ht _ => fin t _ rfl ht) hS.2.2 hd hlocks
    show va_rf (rfo b x) = .null ∨ ∃ a, va_rf (rfo b x) = .ref a
    cases rfo b x with
    | none => exact Or.inl rfl
    | some a => exact Or.inr ⟨a, rfl⟩
  | some .byte, hr, hd, hok, fin =>
    obtain ⟨x, rfl, hx1, hx2⟩ := hok
    refine W.zret hx hb hr ?_ (fun t ht _ => fin t _ rfl ht) hS.2.2 hd hlocks
    have h1 : narrow .byte (.int (Int32.ofInt x)) = .int (Int32.ofInt x).toInt8.toInt32 := rfl
    rw [h1]
    congr 1
    apply Int32.toInt_inj.mp
    rw [Int8.toInt_toInt32, Int32.toInt_toInt8, oI_t, w32_id (by omega)]
    rw [Int.bmod_def]
    split <;> omega
  | some .short, hr, hd, hok, fin => exact hok.elim
  | some .float, hr, hd, hok, fin => exact hok.elim
  | some .double, hr, hd, hok, fin => exact hok.elim

/-! calls -/
def cS : List AV → Nat
  | [] => 0
  | v :: l => (if v.1 = 2 then 2 else 1) + cS l
theorem cS_eq (b : Nat) (sc : Nat → Nat) (l : List AV) : ((l.map (cv b sc)).map fun v => v.category).sum = cS l := by
  induction l with
  | nil => rfl
  | cons v l ih => rw [List.map_cons, List.map_cons, List.sum_cons, ih, cv_cat]; rfl
/-- what a call's place asks of the words: own class, entry, method, how many parameters -/
def CLm (own : String) (index : Nat) (k : MI) (n : Nat) : Prop :=
  Cond.methodLink own index k.1 ∈ gw ∧ Cond.initialized k.1.cls ∈ gw ∧ Cond.code k.1 k.2.1 k.2.2.1 k.2.2.2 ∈ gw ∧ k.2.2.1 ≤ 50 ∧ k.1.cls ≠ "java/lang/invoke/MethodHandle" ∧ k.1.cls ≠ "java/lang/invoke/VarHandle" ∧ (parseMethodDescriptor k.1.desc).map (fun d => d.parameters.length) = some n
def CLv (own : String) (index : Nat) (k : MI) (n : Nat) : Prop := CLm own index k n ∧ Cond.instanceMethod k.1 ∈ gw ∧ Cond.selects k.1.cls k.1 k.1 ∈ gw
def CLs (own : String) (index : Nat) (k : MI) (n : Nat) : Prop := CLm own index k n ∧ Cond.static k.1 ∈ gw
theorem gwOf_good {k : MI} (h : Cond.code k.1 k.2.1 k.2.2.1 k.2.2.2 ∈ gw) : GoodIn gw (gwOf k) := fun w hw => by
  rcases List.mem_cons.mp hw with rfl | hw
  · exact gw_good _ h
  · exact gw_good _ hw
section GO
variable {p : Program} {l : Launch} {e : Env} {R : Room} {s : State} {m : MethodId} {args : Array Value} {below : List Frame} {meth : Method} {c : Code} {H : Heap} {locs : List Loc} {cells slots : Nat} {Q : State → Prop}
theorem run_go {b mc ms pc : Nat} {ls : Array Slot} {st0 rest : List Value} {Qa : State → Outcome → State → Prop} (hr : va_Run p l e R s m args below meth c H locs cells slots mc ms (F0 m pc ls st0) rest Qa (fun q => b ≤ q)) (hS : va_S (fun q => b ≤ q) s.heap H locs)
    (hF : ∀ (st : State) (v : Option Value) (t : State), st.heap = H → Qa st (.returned v) t → va_F (fun q => b ≤ q) st t)
    (kk : ∀ (v : Option Value) (st t : State) (H1 : Heap) (locs1 : List Loc), Qa st (.returned v) t → t.heap = H1 → va_S (fun q => b ≤ q) s.heap H1 locs1 → W p l e R s m args below meth c H1 locs1 (cells + mc) (slots + ms) Q (F0 m (pc + 3) ls (v.toList ++ rest))) : W p l e R s m args below meth c H locs cells slots Q (F0 m pc ls st0) := by
  intro T hT X
  obtain ⟨v, st₀, t, T', L, h0, X', hL, e1, e2, hQ, st⟩ := hr T hT X
  obtain ⟨hz, hk⟩ := hF st₀ v t h0 hQ
  rw [h0] at hz hk
  obtain ⟨t2, a1, b1⟩ := kk v st₀ t T'.heap (locs ++ L) hQ e1.symm
    ⟨Nat.le_trans hS.1 (by rw [e1]; exact hz), fun q h1 h2 => by rw [e1, hk q (Nat.lt_of_lt_of_le h1 hS.1) h2]; exact hS.2.1 q h1 h2, fun q hq => by
      rcases List.mem_append.mp hq with h | h
      · exact hS.2.2 q h
      · exact hL q h⟩ T' rfl X'
  exact ⟨t2, st t2 a1, b1⟩
end GO
/-- what a caller hands over: the callee's start -/
theorem pc_blind {b : Nat} {κ : Nat → ClassId} {D : va_G} {sc : Nat → Nat} {S : Sh} {M : Me} {av : List Value} : FrameBlind (va_Pc av (fun U => b ≤ U.heap.size ∧ Wd b κ D S M U.heap ∧ KK κ D U ∧ NW U ∧ StF sc (fun q => b ≤ q) U U.heap)) := by
  intro a U g mk q
  obtain ⟨q0, q1, q2, q3, q4, q5⟩ := q
  exact ⟨q0, q1, q2, KK.moved (u := U) (U := U.calling g mk a) (Vm.Alike.refl U.vm) q3, NW.same (s := U) rfl q4, StF.same (s := U) rfl q5⟩
theorem pc_at {b : Nat} {κ : Nat → ClassId} {D : va_G} {sc : Nat → Nat} {S : Sh} {M : Me} {av : List Value} {s : State} {H : Heap} {locs : List Loc} (hb0 : b ≤ s.heap.size) (hW : Wd b κ D S M H) (hK : KK κ D s) (hN : NW s) (hSt : StF sc (fun q => b ≤ q) s s.heap) (hS : va_S (fun q => b ≤ q) s.heap H locs) :
    ∀ U : State, U.heap = H → s.WarmedH U.vm → va_Pc av (fun U => b ≤ U.heap.size ∧ Wd b κ D S M U.heap ∧ KK κ D U ∧ NW U ∧ StF sc (fun q => b ≤ q) U U.heap) av.toArray U := by
  intro U hU hW9
  refine ⟨rfl, ?_, ?_, hK.moved hW9.alike, hN.warm hW9, ?_⟩
  · rw [hU]; exact Nat.le_trans hb0 hS.1
  · rw [hU]; exact hW
  · rw [hU]; exact StF.warm hW9 (hSt.kept hS.2.1)
theorem pc_recv {b : Nat} {κ : Nat → ClassId} {D : va_G} {S : Sh} {M : Me} {s : State} {H : Heap} {a t n N : Nat} {rs : List Int} {C : String} {T : u_T} (hK : KK κ D s) (hW : Wd b κ D S M H) (hS : S[a]? = some (t, n, rs)) (ht : t < 12) (hc : vwCl[t]? = some (C, T, N)) : ∃ cell : Cell, H[b + a]? = some cell ∧ cell.vm.isStatics = false ∧ s.vm.findClass C = some cell.cls := by
  have he : (toW b κ S M)[a]? = some (b + a, .inr (t, (List.range n).map (fun j : Nat => cf b (fT t j) (M a j) (rs.getD j (-1))))) := by
    rw [toW_at hS]; unfold ent; rw [if_pos ht]
  exact va_recv hK.K0 hW.1 hc he
section CALL
variable {k k' : MI} {c1 c2 dd d' e1 e2 : Nat} {xs : Option (List Int)} {Q Q' : Option AV → Sh → Me → Prop} {pc index np : Nat} {al as rest : List AV} {S : Sh} {M : Me} {n1 n2 : Nat} {a : Int} {t n N : Nat} {rs : List Int} {C : String} {T : u_T}
theorem cv_ref {b : Nat} {sc : Nat → Nat} {a : Int} (h : 0 ≤ a) : cv b sc (1, a) = .ref (b + a.toNat) := by
  show va_rf (rfo b a) = _
  unfold rfo
  rw [if_neg (by omega)]; rfl
theorem okR_okA {r : Option FieldType} {v : AV} (h : okR r (some v)) : okA v := by
  unfold okR at h
  split at h
  · cases h
  all_goals first
    | (obtain ⟨x, e, h⟩ := h; cases e; exact okA_i (by omega))
    | (obtain ⟨x, e, h⟩ := h; cases e; exact okA_l h)
    | (obtain ⟨x, e⟩ := h; cases e; exact okA_r)
    | exact h.elim
theorem okR_okL {r : Option FieldType} {v : Option AV} (h : okR r v) : okL v.toList := by
  cases v with
  | none => exact okL_nil
  | some v => exact okL_cons.mpr ⟨okR_okA h, okL_nil⟩
set_option maxHeartbeats 2000000 in
theorem r_callV (as rest : List AV) (d : decode k.2.1 pc = .ok (.invokevirtual index, 3)) (hl : CLv k.1.cls index k' np) (hSa : S[a.toNat]? = some (t, n, rs)) (ha : 0 ≤ a) (ht : t < 12) (hc : vwCl[t]? = some (k'.1.cls, T, N)) (hd : d' + 1 ≤ dd) (hn : as.length = np) (h8 : cS rest ≤ 8) (hm : n1 + e1 ≤ c1 ∧ n2 + e2 ≤ c2)
    (hM : Con k' d' e1 e2 ((1, a) :: as) S M Q')
    (kk : ∀ v S' M', Q' v S' M' → okR k'.2.2.2 v → V k c1 c2 dd xs Q (pc + 3) al (v.toList ++ rest) S' M' (n1 + e1) (n2 + e2)) : V k c1 c2 dd xs Q pc al (as.reverse ++ (1, a) :: rest) S M n1 n2 := by
  intro p l e R s m args below meth c b κ D sc Tg H locs ls Cc F hn12 hW hL ho hS
  obtain ⟨⟨hx, hb, hml, hown, hnm, hlk⟩, hts, ⟨hr1, hr2, hr3, hr4⟩, hb0, hK, hN, hSt, hSc⟩ := id Cc
  obtain ⟨⟨l1, l2, l3, l4, l5, l6, l7⟩, l8, l9⟩ := hl
  have hoa : okL ((1, a) :: as) := by
    refine okL_cons.mpr ⟨okA_r, fun v hv => ho.2 v (List.mem_append_left _ (List.mem_reverse.mpr hv))⟩
  have cw := cwV (R := R) (s := s) (args := args) (own := k.1.cls) (index := index) (y := k'.1) (C := k'.1.cls) (bytes := k'.2.1) (maxL := k'.2.2.1) (ret := k'.2.2.2) (ws := gwOf k') (ws' := gw) (rm := { frames := d', cells := e1, slots := e2, locals := 70 * d' }) (mc := e1) (ms := e2) np hts
    (fun w hw => by
      unfold wsV at hw
      rcases List.mem_append.mp hw with h | h
      · simp only [List.mem_cons, List.not_mem_nil, or_false] at h
        rcases h with rfl | rfl | rfl | rfl
        · exact gw_good _ l1
        · exact gw_good _ l8
        · exact gw_good _ l9
        · exact gw_good _ l2
      · exact gwOf_good l3 w h) rfl rfl rfl ⟨rfl, l5, l6, l7⟩ ⟨by show d' + 1 ≤ R.frames; omega, by show 8 + (k'.2.2.1 + 11) + 70 * d' ≤ R.locals; omega⟩
  have hM1 := hM l b κ D sc hoa
  have hrun := va_runV (As := as.map (cv b sc)) (rest := rest.map (cv b sc)) (b := b + a.toNat) (H := H) (locs := locs) (cells := n1) (slots := n2) (m := m) (g := F0 m pc ls ((as.reverse ++ (1, a) :: rest).map (cv b sc))) (p := p) (e := e) (below := below) (meth := meth) ⟨hx, hb, hml, hown, hts⟩ hM1 cw
    ⟨pc_blind, pc_recv hK hW hSa ht hc, by
      have := pc_at (av := ((1, a) :: as).map (cv b sc)) hb0 hW hK hN hSt hS
      rw [List.map_cons, cv_ref ha] at this ⊢
      exact this⟩ rfl (by rw [List.length_map]; exact hn) hL.1 (by
      show (as.reverse ++ (1, a) :: rest).map (cv b sc) = _
      rw [List.map_append, List.map_cons, cv_ref ha, List.map_reverse]) (lv_room (by rw [cS_eq]; exact h8)) d ⟨by omega, by omega⟩
  refine run_go hrun hS (fun st v t _ h => h.2) ?_
  rintro v0 st t0 H1 locs1 ⟨⟨v, S', M', e9, q1, q2, q3⟩, -⟩ hH1 hS1
  have e9 := Outcome.returned.inj e9
  subst e9
  rw [hH1] at q3
  have := kk v S' M' q1 q2 p l e R s m args below meth c b κ D sc Tg H1 locs1 ls Cc F ⟨hm.1, hm.2⟩ q3 hL ⟨ho.1, okL_app (okR_okL q2) (fun w hw => ho.2 w (List.mem_append_right _ (List.mem_cons_of_mem _ hw)))⟩ hS1
  refine W.eq ?_ this
  congr 1
  cases v <;> rfl
set_option maxHeartbeats 2000000 in
theorem r_callS (as rest : List AV) (d : decode k.2.1 pc = .ok (.invokestatic index, 3)) (hl : CLs k.1.cls index k' np) (hd : d' + 1 ≤ dd) (hn : as.length = np) (h8 : cS rest ≤ 8) (hm : n1 + e1 ≤ c1 ∧ n2 + e2 ≤ c2)
    (hM : Con k' d' e1 e2 as S M Q')
    (kk : ∀ v S' M', Q' v S' M' → okR k'.2.2.2 v → V k c1 c2 dd xs Q (pc + 3) al (v.toList ++ rest) S' M' (n1 + e1) (n2 + e2)) : V k c1 c2 dd xs Q pc al (as.reverse ++ rest) S M n1 n2 := by
  intro p l e R s m args below meth c b κ D sc Tg H locs ls Cc F hn12 hW hL ho hS
  obtain ⟨⟨hx, hb, hml, hown, hnm, hlk⟩, hts, ⟨hr1, hr2, hr3, hr4⟩, hb0, hK, hN, hSt, hSc⟩ := id Cc
  obtain ⟨⟨l1, l2, l3, l4, l5, l6, l7⟩, l8⟩ := hl
  have hoa : okL as := fun v hv => ho.2 v (List.mem_append_left _ (List.mem_reverse.mpr hv))
  have hM1 := hM l b κ D sc hoa
  have cw := va_cwS (R := R) (s := s) (args := args) (own := k.1.cls) (index := index) (y := k'.1) (bytes := k'.2.1) (maxL := k'.2.2.1) (ret := k'.2.2.2) (ws := gwOf k') (ws' := gw) (rm := { frames := d', cells := e1, slots := e2, locals := 70 * d' }) (mc := e1) (ms := e2) np hts
    (fun w hw => by
      unfold va_wsS at hw
      rcases List.mem_append.mp hw with h | h
      · simp only [List.mem_cons, List.not_mem_nil, or_false] at h
        rcases h with rfl | rfl | rfl
        · exact gw_good _ l1
        · exact gw_good _ l8
        · exact gw_good _ l2
      · exact gwOf_good l3 w h) rfl rfl rfl ⟨l5, l6, l7⟩ ⟨by show d' + 1 ≤ R.frames; omega, by show 8 + (k'.2.2.1 + 11) + 70 * d' ≤ R.locals; omega⟩
  have hrun := va_runS (As := as.map (cv b sc)) (rest := rest.map (cv b sc)) (H := H) (locs := locs) (cells := n1) (slots := n2) (m := m) (g := F0 m pc ls ((as.reverse ++ rest).map (cv b sc))) (p := p) (e := e) (below := below) (meth := meth) ⟨hx, hb, hml, hown, hts⟩ hM1 cw
    ⟨pc_blind, pc_at hb0 hW hK hN hSt hS⟩ rfl (by rw [List.length_map]; exact hn) hL.1 (by
      show (as.reverse ++ rest).map (cv b sc) = _
      rw [List.map_append, List.map_reverse]) (lv_room (by rw [cS_eq]; exact h8)) d ⟨by omega, by omega⟩
  refine run_go hrun hS (fun st v t _ h => h.2) ?_
  rintro v0 st t0 H1 locs1 ⟨⟨v, S', M', e9, q1, q2, q3⟩, -⟩ hH1 hS1
  have e9 := Outcome.returned.inj e9
  subst e9
  rw [hH1] at q3
  have := kk v S' M' q1 q2 p l e R s m args below meth c b κ D sc Tg H1 locs1 ls Cc F ⟨hm.1, hm.2⟩ q3 hL ⟨ho.1, okL_app (okR_okL q2) (fun w hw => ho.2 w (List.mem_append_right _ hw))⟩ hS1
  refine W.eq ?_ this
  congr 1
  cases v <;> rfl
end CALL
