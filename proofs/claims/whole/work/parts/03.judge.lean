/-! words: those that last while classes grow warm -/
def gw : List Cond := lw_tbl.filter goodWord
theorem gw_in {w : Cond} (h : w ∈ lw_tbl) (hg : goodWord w = true) : w ∈ gw := List.mem_filter.mpr ⟨h, hg⟩
theorem tP {w : Cond} (i : Nat) (h : (k2_sels lw_privs)[i]? = some w) (hg : goodWord w = true) : w ∈ gw :=
  gw_in (show w ∈ k2_sels lw_privs ++ tables_1 from List.mem_append_left _ (List.mem_of_getElem? h)) hg
def gwOf (k : MI) : List Cond := Cond.code k.1 k.2.1 k.2.2.1 k.2.2.2 :: gw
theorem gw_good : GoodIn gw gw := fun w h => ⟨h, good_of_word (List.mem_filter.mp h).2⟩
/-! what stays true of the machine's tables -/
theorem AOA_spec {U : State} (h : (Cond.arrayOver (.array .int)).before #[] U = true) :
    ∃ comp c k, U.vm.findClass (FieldType.array .int).toString = some comp ∧ (U.vm.classes.findIdx? fun (x : Class) => match x.kind with | .array component _ => component == comp | _ => false) = some c ∧ U.vm.classes[c]? = some k ∧ k.kind = .array comp (.array .int) ∧ U.vm.findClass ("[" ++ (FieldType.array .int).toString) = some c := by
  unfold Cond.before at h
  simp only [Cond.holds, Cond.value, beq_iff_eq] at h
  cases hc : U.vm.findClass (FieldType.array .int).toString with
  | none => rw [hc] at h; simp at h
  | some comp =>
    rw [hc, Option.bind_some, Option.bind_eq_some_iff] at h
    obtain ⟨c, h1, h2⟩ := h
    rw [Option.map_eq_some_iff] at h2
    obtain ⟨k, h3, h4⟩ := h2
    refine ⟨comp, c, k, rfl, h1, h3, ?_⟩
    have hp := Array.findIdx?_eq_some_iff_getElem.mp h1
    obtain ⟨hlt, hp, -⟩ := hp
    have hk : U.vm.classes[c] = k := by
      have := Array.getElem?_eq_getElem hlt
      rw [h3] at this
      exact (Option.some.inj this).symm
    rw [hk] at hp
    split at hp
    · rename_i component ty hkind
      rw [hkind] at h4
      simp only [Bool.and_eq_true, decide_eq_true_eq] at h4
      have := eq_of_beq hp
      subst this
      rw [hkind, h4.1]
      exact ⟨rfl, h4.2⟩
    · cases hp
theorem AOA.moved {u U : State} (hvm : u.vm.Alike U.vm) (h : (Cond.arrayOver (.array .int)).before #[] u = true) : (Cond.arrayOver (.array .int)).before #[] U = true := by
  obtain ⟨comp, c, k, h1, h2, h3, h4, h5⟩ := AOA_spec h
  obtain ⟨k', hk', he⟩ := hvm.2.2 _ _ h3
  have hi : (U.vm.classes.findIdx? fun (x : Class) => match x.kind with | .array component _ => component == comp | _ => false) = some c := by
    have e1 := va_idx_bare U.vm comp
    have e2 := va_idx_bare u.vm comp
    first
      | (rw [hvm.bare_eq] at e2; exact e1.symm.trans (e2.trans h2))
      | (rw [← hvm.bare_eq] at e2; exact e1.symm.trans (e2.trans h2))
  have hkind : k'.kind = .array comp (.array .int) := by rw [he]; exact h4
  have f1 : U.vm.findClass (FieldType.array .int).toString = some comp := by rw [hvm.findClass]; exact h1
  have f2 : U.vm.findClass ("[" ++ (FieldType.array .int).toString) = some c := by rw [hvm.findClass]; exact h5
  unfold Cond.before Cond.holds
  simp only [Cond.value]
  rw [f1, Option.bind_some]
  refine (congrArg (fun o : Option Nat => (o.bind (fun c => (U.vm.classes[c]?).map fun (k : Class) => match k.kind with | .array _ ty => decide (ty = FieldType.array .int) && decide (U.vm.findClass ("[" ++ (FieldType.array .int).toString) = some c) | _ => false) == some true)) hi).trans ?_
  simp [hk', hkind, f2]
def KK (κ : Nat → ClassId) (D : va_G) (U : State) : Prop :=
  (∀ (c : Nat) (q : vw_C), vwCl[c]? = some q → u_Kn U q.1 q.2.1 q.2.2 (D.1 c) (D.2 c)) ∧ (∀ t : Nat, 20 ≤ t → t < 26 → ArrOfT U (κ t) (tyT t) ∧ va_RA U (κ t) (tyT t)) ∧ va_AO RX8 U ∧ va_AO RX3 U ∧ (Cond.arrayOver (.array .int)).before #[] U = true
theorem KK.moved {κ : Nat → ClassId} {D : va_G} {u U : State} (hvm : u.vm.Alike U.vm) (h : KK κ D u) : KK κ D U :=
  ⟨fun c q hq => u_Kn_moved hvm (h.1 c q hq), fun t h1 h2 => ⟨arrOfT_moved hvm (h.2.1 t h1 h2).1, (h.2.1 t h1 h2).2.moved hvm⟩, h.2.2.1.moved hvm, h.2.2.2.1.moved hvm, AOA.moved hvm h.2.2.2.2⟩
theorem KK.K0 {κ : Nat → ClassId} {D : va_G} {U : State} (h : KK κ D U) : va_K D vwCl [] U := ⟨h.1, fun k q hk => by cases hk⟩
theorem KK.K1 {κ : Nat → ClassId} {D : va_G} {U : State} (h : KK κ D U) {t : Nat} (h1 : 20 ≤ t) (h2 : t < 26) : va_K D vwCl [(κ t, tyT t)] U := by
  refine ⟨h.1, fun k q hk => ?_⟩
  match k, hk with
  | 0, hk => cases hk; exact h.2.1 t h1 h2
  | k + 1, hk => cases hk
/-- what the tables say of the private constructors that a nest mate calls, and of the text WORDS -/
def NW (U : State) : Prop := ∀ w : Cond, w ∈ lw_tbl → (∃ (a : String) (i : Nat) (x : MethodName) (h : String), w = Cond.methodLinkNest a i x h) → va_Nw w U
theorem NW.warm {s U : State} (hW : s.WarmedH U.vm) (h : NW s) : NW U := by
  intro w hw ⟨a, i, x, g, e⟩
  subst e
  exact va_Nw.warmM hW (h _ hw ⟨a, i, x, g, rfl⟩)
theorem NW.same {s U : State} (hv : s.vm = U.vm) (h : NW s) : NW U := by
  intro w hw ⟨a, i, x, g, e⟩
  subst e
  exact va_Nw.same rfl hv (h _ hw ⟨a, i, x, g, rfl⟩)
def tWORDS : String := "presses scorches price person crease tie press pattern damp heat hour who skin year depth worth coins ties to turned deep if then else end not and or "
def bWORDS : List Int32 := tWORDS.toList.map (fun c => Int32.ofNat c.toNat)
def StF (sc : Nat → Nat) (A : Nat → Prop) (U : State) (H : Heap) : Prop :=
  vk_R RX4 146 tWORDS (sc 1) U ∧ vk_S 1 [150] [bWORDS] (fun _ => sc 1) (fun _ => sc 2) A U H ∧ va_Z "java/lang/String" "COMPACT_STRINGS" "Z" (.int 1) A U H ∧ va_Zq "jdk/internal/util/Preconditions" "SIOOBE_FORMATTER" "Ljava/util/function/BiFunction;" A U H
theorem StF.warm {sc : Nat → Nat} {A : Nat → Prop} {s U : State} {H : Heap} (hW : s.WarmedH U.vm) (h : StF sc A s H) : StF sc A U H :=
  ⟨h.1.warm hW, h.2.1.moved hW.alike, h.2.2.1.moved hW.alike, h.2.2.2.moved hW.alike⟩
theorem StF.same {sc : Nat → Nat} {A : Nat → Prop} {s U : State} {H : Heap} (hv : s.vm = U.vm) (h : StF sc A s H) : StF sc A U H := by
  have ha : s.vm.Alike U.vm := by rw [hv]; exact Vm.Alike.refl U.vm
  exact ⟨h.1.same hv.symm, h.2.1.moved ha, h.2.2.1.moved ha, h.2.2.2.moved ha⟩
theorem StF.kept {sc : Nat → Nat} {A : Nat → Prop} {U : State} {H H1 : Heap} (hq : ∀ a : Nat, a < H.size → ¬ A a → H1[a]? = H[a]?) (h : StF sc A U H) : StF sc A U H1 :=
  ⟨h.1, h.2.1.kept hq, h.2.2.1.kept hq, h.2.2.2.kept hq⟩
/-- the script, where a method reads one -/
def ScF (sc : Nat → Nat) (b : Nat) (xs : Option (List Int)) (s : State) (H : Heap) : Prop :=
  ∀ l : List Int, xs = some l → va_X (sc 0) l.length (fun j => Int32.ofInt (l.getD j 0)) s H ∧ sc 0 < H.size ∧ sc 0 < b ∧ l.length < 2147483648 ∧ ∀ x, x ∈ l → -2147483648 ≤ x ∧ x < 2147483648
/-! the judgement: from this place, with these values, the method comes to an end that Q tells -/
def okR : Option FieldType → Option AV → Prop
  | none, v => v = none
  | some .int, v => ∃ x, v = some (0, x) ∧ -2147483648 ≤ x ∧ x < 2147483648
  | some .boolean, v => ∃ x, v = some (0, x) ∧ 0 ≤ x ∧ x ≤ 1
  | some .char, v => ∃ x, v = some (0, x) ∧ 0 ≤ x ∧ x ≤ 65535
  | some .byte, v => ∃ x, v = some (0, x) ∧ -128 ≤ x ∧ x ≤ 127
  | some .long, v => ∃ x, v = some (2, x) ∧ -9223372036854775808 ≤ x ∧ x < 9223372036854775808
  | some .short, _ => False
  | some .float, _ => False
  | some .double, _ => False
  | some _, v => ∃ x, v = some (1, x)
def retI : Option FieldType → Instr
  | none => .return_
  | some .long => .lreturn
  | some (.object _) => .areturn
  | some (.array _) => .areturn
  | some _ => .ireturn
def LH (b : Nat) (sc : Nat → Nat) (ls : Array Slot) (nL : Nat) (al : List AV) : Prop :=
  ls.size = nL ∧ lv_wf ls ∧ ∀ (i : Nat) (v : AV), al[i]? = some v → v.1 ≠ 9 → ls[i]? = some (.val (cv b sc v))
def Cx (k : MI) (c1 c2 dd : Nat) (p : Program) (l : Launch) (e : Env) (R : Room) (s : State) (m : MethodId) (args : Array Value) (below : List Frame) (meth : Method) (c : Code) (b : Nat) (κ : Nat → ClassId) (D : va_G) (sc : Nat → Nat) (xs : Option (List Int)) : Prop :=
  (p.tables.exec = Jvm.exec ∧ c.code = k.2.1 ∧ c.maxLocals = k.2.2.1 ∧ s.vm.findClass k.1.cls = some m.cls ∧ meth.name = k.1.name ∧ meth.locks = false) ∧
  (∀ w, w ∈ gw → w.before args s = true) ∧ (dd ≤ R.frames ∧ 70 * dd ≤ R.locals ∧ R.cells = c1 ∧ R.slots = c2) ∧ b ≤ s.heap.size ∧ KK κ D s ∧ NW s ∧ StF sc (fun q => b ≤ q) s s.heap ∧ ScF sc b xs s s.heap
def Rt (k : MI) (c1 c2 : Nat) (Q : Option AV → Sh → Me → Prop) (p : Program) (l : Launch) (e : Env) (R : Room) (s : State) (m : MethodId) (args : Array Value) (below : List Frame) (meth : Method) (c : Code) (b : Nat) (κ : Nat → ClassId) (D : va_G) (sc : Nat → Nat) (Tg : State → Prop) : Prop :=
  ∀ (v : Option AV) (S : Sh) (M : Me) (H : Heap) (locs : List Loc) (n1 n2 : Nat) (ls : Array Slot) (pc : Nat), n1 ≤ c1 → n2 ≤ c2 → Q v S M → Wd b κ D S M H → va_S (fun q => b ≤ q) s.heap H locs → okR k.2.2.2 v → decode k.2.1 pc = .ok (retI k.2.2.2, 1) → W p l e R s m args below meth c H locs n1 n2 Tg (F0 m pc ls ((v.map (cv b sc)).toList))
/-- k the method, c1 cells and c2 slots at most, dd calls deep at most, xs the script if it reads one, Q the end; n1 cells and n2 slots so far -/
def V (k : MI) (c1 c2 dd : Nat) (xs : Option (List Int)) (Q : Option AV → Sh → Me → Prop) (pc : Nat) (al st : List AV) (S : Sh) (M : Me) (n1 n2 : Nat) : Prop :=
  ∀ (p : Program) (l : Launch) (e : Env) (R : Room) (s : State) (m : MethodId) (args : Array Value) (below : List Frame) (meth : Method) (c : Code) (b : Nat) (κ : Nat → ClassId) (D : va_G) (sc : Nat → Nat) (Tg : State → Prop) (H : Heap) (locs : List Loc) (ls : Array Slot),
    Cx k c1 c2 dd p l e R s m args below meth c b κ D sc xs → Rt k c1 c2 Q p l e R s m args below meth c b κ D sc Tg → (n1 ≤ c1 ∧ n2 ≤ c2) → Wd b κ D S M H → LH b sc ls k.2.2.1 al → (okL al ∧ okL st) → va_S (fun q => b ≤ q) s.heap H locs →
    W p l e R s m args below meth c H locs n1 n2 Tg (F0 m pc ls (st.map (cv b sc)))
/-- the contract of a method -/
def Con (k : MI) (dd c1 c2 : Nat) (av : List AV) (S : Sh) (M : Me) (Q : Option AV → Sh → Me → Prop) : Prop :=
  ∀ (l : Launch) (b : Nat) (κ : Nat → ClassId) (D : va_G) (sc : Nat → Nat), okL av → Met l k.1 (gwOf k) { frames := dd, cells := c1, slots := c2, locals := 70 * dd }
    (va_Pc (av.map (cv b sc)) (fun U => b ≤ U.heap.size ∧ Wd b κ D S M U.heap ∧ KK κ D U ∧ NW U ∧ StF sc (fun q => b ≤ q) U U.heap))
    (fun _ st oc t => (∃ (v : Option AV) (S' : Sh) (M' : Me), oc = .returned (v.map (cv b sc)) ∧ Q v S' M' ∧ okR k.2.2.2 v ∧ Wd b κ D S' M' t.heap) ∧ va_F (fun q => b ≤ q) st t) c1 c2 (fun q => b ≤ q)
theorem V.mono {k : MI} {c1 c2 dd : Nat} {xs : Option (List Int)} {Q Q' : Option AV → Sh → Me → Prop} {pc : Nat} {al st : List AV} {S : Sh} {M : Me} {n1 n2 : Nat} (h : V k c1 c2 dd xs Q pc al st S M n1 n2) (hQ : ∀ v S M, Q v S M → Q' v S M) : V k c1 c2 dd xs Q' pc al st S M n1 n2 := by
  intro p l e R s m args below meth c b κ D sc Tg H locs ls C F hn hW hL ho hS
  exact h p l e R s m args below meth c b κ D sc Tg H locs ls C (fun v S M H locs n1 n2 ls pc a1 a2 q => F v S M H locs n1 n2 ls pc a1 a2 (hQ v S M q)) hn hW hL ho hS
theorem Con.mono {k : MI} {dd c1 c2 : Nat} {av : List AV} {S : Sh} {M : Me} {Q Q' : Option AV → Sh → Me → Prop} (h : Con k dd c1 c2 av S M Q) (hQ : ∀ v S M, Q v S M → Q' v S M) : Con k dd c1 c2 av S M Q' := by
  intro l b κ D sc ho
  have h1 := h l b κ D sc ho
  unfold Met at h1 ⊢
  intro p e ha hc hk s m args below hf happ hP hK
  obtain ⟨n, o, g1, g2, g3, ⟨⟨v, S', M', q1, q2, q3⟩, q4⟩, g5⟩ := h1 p e ha hc hk s m args below hf happ hP hK
  exact ⟨n, o, g1, g2, g3, ⟨⟨v, S', M', q1, hQ _ _ _ q2, q3⟩, q4⟩, g5⟩
