theorem tmod_in {x y a c : Int} (ha : a ≤ 0) (hc : 0 < c) (h : a ≤ x ∧ x < c) : a ≤ x.tmod y ∧ x.tmod y < c := by
  have h1 : (x.tmod y).natAbs ≤ x.natAbs := by rw [Int.natAbs_tmod]; exact Nat.mod_le _ _
  by_cases hx : 0 ≤ x
  · have h2 : 0 ≤ x.tmod y := Int.tmod_nonneg y hx
    omega
  · have h2 : 0 ≤ (-x).tmod y := Int.tmod_nonneg y (by omega)
    rw [Int.neg_tmod] at h2
    omega
section RUL
variable {k : MI} {c1 c2 dd : Nat} {xs : Option (List Int)} {Q : Option AV → Sh → Me → Prop} {pc tgt i : Nat} {al al' st : List AV} {S : Sh} {M : Me} {n1 n2 : Nat} {x y z : Int} {off : Int}
theorem W.mv {p : Program} {l : Launch} {e : Env} {R : Room} {s : State} {m : MethodId} {args : Array Value} {below : List Frame} {meth : Method} {c : Code} {H : Heap} {locs : List Loc} {cells slots : Nat} {Q : State → Prop} {pc : Nat} {ls : Array Slot} {s1 s2 : List Value} (h : s1 = s2) (k : W p l e R s m args below meth c H locs cells slots Q (F0 m pc ls s2)) : W p l e R s m args below meth c H locs cells slots Q (F0 m pc ls s1) := h ▸ k
theorem ok2 {v w : AV} (h : okL (v :: w :: st)) : okA v ∧ okA w ∧ okL st := ⟨(okL_cons.mp h).1, okL_cons.mp (okL_cons.mp h).2⟩
theorem r_iconst (d : decode k.2.1 pc = .ok (.iconst x, 1)) (hx0 : -2147483648 ≤ x ∧ x < 2147483648) (kk : V k c1 c2 dd xs Q (pc + 1) al ((0, x) :: st) S M n1 n2) : V k c1 c2 dd xs Q pc al st S M n1 n2 := by
  intro p l e R s m args below meth c b κ D sc Tg H locs ls Cc F hn12 hW hL ho hS
  obtain ⟨⟨hx, hb, hml, hown, hnm, hlk⟩, hts, hR, hb0, hK, hN, hSt, hSc⟩ := id Cc
  exact lv_iconst hx hb d rfl (kk p l e R s m args below meth c b κ D sc Tg H locs ls Cc F hn12 hW hL ⟨ho.1, okL_cons.mpr ⟨okA_i hx0, ho.2⟩⟩ hS)
theorem r_bipush (d : decode k.2.1 pc = .ok (.bipush x, 2)) (hv : (Int8.ofInt x).toInt32 = Int32.ofInt x) (hx0 : -2147483648 ≤ x ∧ x < 2147483648) (kk : V k c1 c2 dd xs Q (pc + 2) al ((0, x) :: st) S M n1 n2) : V k c1 c2 dd xs Q pc al st S M n1 n2 := by
  intro p l e R s m args below meth c b κ D sc Tg H locs ls Cc F hn12 hW hL ho hS
  obtain ⟨⟨hx, hb, hml, hown, hnm, hlk⟩, hts, hR, hb0, hK, hN, hSt, hSc⟩ := id Cc
  exact lv_bipush hx hb d hv (kk p l e R s m args below meth c b κ D sc Tg H locs ls Cc F hn12 hW hL ⟨ho.1, okL_cons.mpr ⟨okA_i hx0, ho.2⟩⟩ hS)
theorem r_sipush (d : decode k.2.1 pc = .ok (.sipush x, 3)) (hv : (Int16.ofInt x).toInt32 = Int32.ofInt x) (hx0 : -2147483648 ≤ x ∧ x < 2147483648) (kk : V k c1 c2 dd xs Q (pc + 3) al ((0, x) :: st) S M n1 n2) : V k c1 c2 dd xs Q pc al st S M n1 n2 := by
  intro p l e R s m args below meth c b κ D sc Tg H locs ls Cc F hn12 hW hL ho hS
  obtain ⟨⟨hx, hb, hml, hown, hnm, hlk⟩, hts, hR, hb0, hK, hN, hSt, hSc⟩ := id Cc
  exact lv_sipush hx hb d hv (kk p l e R s m args below meth c b κ D sc Tg H locs ls Cc F hn12 hW hL ⟨ho.1, okL_cons.mpr ⟨okA_i hx0, ho.2⟩⟩ hS)
theorem r_lconst {n : Fin 2} (d : decode k.2.1 pc = .ok (.lconst n, 1)) (hv : Int64.ofNat (n : Nat) = Int64.ofInt x) (hx0 : -9223372036854775808 ≤ x ∧ x < 9223372036854775808) (kk : V k c1 c2 dd xs Q (pc + 1) al ((2, x) :: st) S M n1 n2) : V k c1 c2 dd xs Q pc al st S M n1 n2 := by
  intro p l e R s m args below meth c b κ D sc Tg H locs ls Cc F hn12 hW hL ho hS
  obtain ⟨⟨hx, hb, hml, hown, hnm, hlk⟩, hts, hR, hb0, hK, hN, hSt, hSc⟩ := id Cc
  exact lv_lconst hx hb d hv (kk p l e R s m args below meth c b κ D sc Tg H locs ls Cc F hn12 hW hL ⟨ho.1, okL_cons.mpr ⟨okA_l hx0, ho.2⟩⟩ hS)
theorem r_ldc {index : Nat} (d : decode k.2.1 pc = .ok (.ldc index, 2)) (hc : Cond.constant k.1.cls index (Int32.ofInt x) ∈ gw) (hx0 : -2147483648 ≤ x ∧ x < 2147483648) (kk : V k c1 c2 dd xs Q (pc + 2) al ((0, x) :: st) S M n1 n2) : V k c1 c2 dd xs Q pc al st S M n1 n2 := by
  intro p l e R s m args below meth c b κ D sc Tg H locs ls Cc F hn12 hW hL ho hS
  obtain ⟨⟨hx, hb, hml, hown, hnm, hlk⟩, hts, hR, hb0, hK, hN, hSt, hSc⟩ := id Cc
  exact lv_ldc hx hb hown (hts _ hc) d (kk p l e R s m args below meth c b κ D sc Tg H locs ls Cc F hn12 hW hL ⟨ho.1, okL_cons.mpr ⟨okA_i hx0, ho.2⟩⟩ hS)
theorem r_ldc2 {index : Nat} (d : decode k.2.1 pc = .ok (.ldc2_w index, 3)) (hc : Cond.constantLong k.1.cls index (Int64.ofInt x) ∈ gw) (hx0 : -9223372036854775808 ≤ x ∧ x < 9223372036854775808) (kk : V k c1 c2 dd xs Q (pc + 3) al ((2, x) :: st) S M n1 n2) : V k c1 c2 dd xs Q pc al st S M n1 n2 := by
  intro p l e R s m args below meth c b κ D sc Tg H locs ls Cc F hn12 hW hL ho hS
  obtain ⟨⟨hx, hb, hml, hown, hnm, hlk⟩, hts, hR, hb0, hK, hN, hSt, hSc⟩ := id Cc
  exact lv_ldc2 hx hb hown (hts _ hc) d (kk p l e R s m args below meth c b κ D sc Tg H locs ls Cc F hn12 hW hL ⟨ho.1, okL_cons.mpr ⟨okA_l hx0, ho.2⟩⟩ hS)
theorem r_ldcw {index : Nat} (d : decode k.2.1 pc = .ok (.ldc_w index, 3)) (hc : Cond.constant k.1.cls index (Int32.ofInt x) ∈ gw) (hx0 : -2147483648 ≤ x ∧ x < 2147483648) (kk : V k c1 c2 dd xs Q (pc + 3) al ((0, x) :: st) S M n1 n2) : V k c1 c2 dd xs Q pc al st S M n1 n2 := by
  intro p l e R s m args below meth c b κ D sc Tg H locs ls Cc F hn12 hW hL ho hS
  obtain ⟨⟨hx, hb, hml, hown, hnm, hlk⟩, hts, hR, hb0, hK, hN, hSt, hSc⟩ := id Cc
  exact lv_ldcw hx hb hown (hts _ hc) d (kk p l e R s m args below meth c b κ D sc Tg H locs ls Cc F hn12 hW hL ⟨ho.1, okL_cons.mpr ⟨okA_i hx0, ho.2⟩⟩ hS)
theorem r_iload_n {j : Fin 4} (d : decode k.2.1 pc = .ok (.iload_n j, 1)) (h : al[(j : Nat)]? = some (0, x)) (kk : V k c1 c2 dd xs Q (pc + 1) al ((0, x) :: st) S M n1 n2) : V k c1 c2 dd xs Q pc al st S M n1 n2 := by
  intro p l e R s m args below meth c b κ D sc Tg H locs ls Cc F hn12 hW hL ho hS
  obtain ⟨⟨hx, hb, hml, hown, hnm, hlk⟩, hts, hR, hb0, hK, hN, hSt, hSc⟩ := id Cc
  exact lv_iload_n hx hb d rfl (hL.2.2 _ _ h (show (0 : Nat) ≠ 9 by decide)) (kk p l e R s m args below meth c b κ D sc Tg H locs ls Cc F hn12 hW hL ⟨ho.1, okL_cons.mpr ⟨ho.1 _ (List.mem_of_getElem? h), ho.2⟩⟩ hS)
theorem r_iload (d : decode k.2.1 pc = .ok (.iload i, 2)) (h : al[i]? = some (0, x)) (kk : V k c1 c2 dd xs Q (pc + 2) al ((0, x) :: st) S M n1 n2) : V k c1 c2 dd xs Q pc al st S M n1 n2 := by
  intro p l e R s m args below meth c b κ D sc Tg H locs ls Cc F hn12 hW hL ho hS
  obtain ⟨⟨hx, hb, hml, hown, hnm, hlk⟩, hts, hR, hb0, hK, hN, hSt, hSc⟩ := id Cc
  exact lv_iload hx hb d (hL.2.2 _ _ h (show (0 : Nat) ≠ 9 by decide)) (kk p l e R s m args below meth c b κ D sc Tg H locs ls Cc F hn12 hW hL ⟨ho.1, okL_cons.mpr ⟨ho.1 _ (List.mem_of_getElem? h), ho.2⟩⟩ hS)
theorem r_lload_n {j : Fin 4} (d : decode k.2.1 pc = .ok (.lload_n j, 1)) (h : al[(j : Nat)]? = some (2, x)) (kk : V k c1 c2 dd xs Q (pc + 1) al ((2, x) :: st) S M n1 n2) : V k c1 c2 dd xs Q pc al st S M n1 n2 := by
  intro p l e R s m args below meth c b κ D sc Tg H locs ls Cc F hn12 hW hL ho hS
  obtain ⟨⟨hx, hb, hml, hown, hnm, hlk⟩, hts, hR, hb0, hK, hN, hSt, hSc⟩ := id Cc
  exact lv_lload_n hx hb d rfl (hL.2.2 _ _ h (show (2 : Nat) ≠ 9 by decide)) (kk p l e R s m args below meth c b κ D sc Tg H locs ls Cc F hn12 hW hL ⟨ho.1, okL_cons.mpr ⟨ho.1 _ (List.mem_of_getElem? h), ho.2⟩⟩ hS)
theorem r_lload (d : decode k.2.1 pc = .ok (.lload i, 2)) (h : al[i]? = some (2, x)) (kk : V k c1 c2 dd xs Q (pc + 2) al ((2, x) :: st) S M n1 n2) : V k c1 c2 dd xs Q pc al st S M n1 n2 := by
  intro p l e R s m args below meth c b κ D sc Tg H locs ls Cc F hn12 hW hL ho hS
  obtain ⟨⟨hx, hb, hml, hown, hnm, hlk⟩, hts, hR, hb0, hK, hN, hSt, hSc⟩ := id Cc
  exact lv_lload hx hb d (hL.2.2 _ _ h (show (2 : Nat) ≠ 9 by decide)) (kk p l e R s m args below meth c b κ D sc Tg H locs ls Cc F hn12 hW hL ⟨ho.1, okL_cons.mpr ⟨ho.1 _ (List.mem_of_getElem? h), ho.2⟩⟩ hS)
theorem r_aload_n {j : Fin 4} (d : decode k.2.1 pc = .ok (.aload_n j, 1)) (h : al[(j : Nat)]? = some (1, x)) (hx9 : 0 ≤ x) (kk : V k c1 c2 dd xs Q (pc + 1) al ((1, x) :: st) S M n1 n2) : V k c1 c2 dd xs Q pc al st S M n1 n2 := by
  intro p l e R s m args below meth c b κ D sc Tg H locs ls Cc F hn12 hW hL ho hS
  obtain ⟨⟨hx, hb, hml, hown, hnm, hlk⟩, hts, hR, hb0, hK, hN, hSt, hSc⟩ := id Cc
  have hg := hL.2.2 _ _ h (show (1 : Nat) ≠ 9 by decide)
  rw [cv_ref hx9] at hg
  refine lv_aload_n hx hb d rfl hg (W.mv ?_ (kk p l e R s m args below meth c b κ D sc Tg H locs ls Cc F hn12 hW hL ⟨ho.1, okL_cons.mpr ⟨ho.1 _ (List.mem_of_getElem? h), ho.2⟩⟩ hS))
  rw [List.map_cons, cv_ref hx9]
theorem r_aload (d : decode k.2.1 pc = .ok (.aload i, 2)) (h : al[i]? = some (1, x)) (hx9 : 0 ≤ x) (kk : V k c1 c2 dd xs Q (pc + 2) al ((1, x) :: st) S M n1 n2) : V k c1 c2 dd xs Q pc al st S M n1 n2 := by
  intro p l e R s m args below meth c b κ D sc Tg H locs ls Cc F hn12 hW hL ho hS
  obtain ⟨⟨hx, hb, hml, hown, hnm, hlk⟩, hts, hR, hb0, hK, hN, hSt, hSc⟩ := id Cc
  have hg := hL.2.2 _ _ h (show (1 : Nat) ≠ 9 by decide)
  rw [cv_ref hx9] at hg
  refine lv_aload hx hb d hg (W.mv ?_ (kk p l e R s m args below meth c b κ D sc Tg H locs ls Cc F hn12 hW hL ⟨ho.1, okL_cons.mpr ⟨ho.1 _ (List.mem_of_getElem? h), ho.2⟩⟩ hS))
  rw [List.map_cons, cv_ref hx9]
theorem r_sload_n {j : Fin 4} (d : decode k.2.1 pc = .ok (.aload_n j, 1)) (h : al[(j : Nat)]? = some (3, x)) (kk : V k c1 c2 dd xs Q (pc + 1) al ((3, x) :: st) S M n1 n2) : V k c1 c2 dd xs Q pc al st S M n1 n2 := by
  intro p l e R s m args below meth c b κ D sc Tg H locs ls Cc F hn12 hW hL ho hS
  obtain ⟨⟨hx, hb, hml, hown, hnm, hlk⟩, hts, hR, hb0, hK, hN, hSt, hSc⟩ := id Cc
  exact lv_aload_n hx hb d rfl (hL.2.2 _ _ h (show (3 : Nat) ≠ 9 by decide)) (kk p l e R s m args below meth c b κ D sc Tg H locs ls Cc F hn12 hW hL ⟨ho.1, okL_cons.mpr ⟨okA_s, ho.2⟩⟩ hS)
/-- the locals behind a store: no long stands just before -/
def stO (al : List AV) (i : Nat) : Bool := i == 0 || !((al[i - 1]?.map (fun v => v.1)) == some 2)
theorem LH.put {b : Nat} {sc : Nat → Nat} {ls : Array Slot} {nL : Nat} {al : List AV} {i : Nat} {v : AV} (h : LH b sc ls nL al) (ho : stO al i = true) (hc : v.1 ≠ 2) (hi : i < nL) :
    ∃ ls', storeLocals ls i (cv b sc v) = some ls' ∧ LH b sc ls' nL (al.set i v) := by
  have hcat : (cv b sc v).category = 1 := by rw [cv_cat, if_neg hc]
  obtain ⟨ls', e, g1, g2, g3⟩ := lv_store1 (l := al.zipIdx.filterMap (fun (q : AV × Nat) => if q.1.1 = 9 then none else some (q.2, cv b sc q.1))) (v := cv b sc v) (i := i) ⟨h.1, h.2.1, by
    intro q hq
    obtain ⟨⟨w, j⟩, h1, h2⟩ := List.mem_filterMap.mp hq
    dsimp only at h2
    split at h2
    · cases h2
    · rename_i h9
      cases h2
      exact h.2.2 j w (by have := List.mem_zipIdx_iff_getElem?.mp h1; simpa using this) h9⟩ hi hcat
  refine ⟨ls', e, g1, g2, fun j w hw h9 => ?_⟩
  by_cases hj : j = i
  · subst hj
    have : j < al.length := by
      have := (List.getElem?_eq_some_iff.mp hw).1
      simpa using this
    rw [List.getElem?_set_self this] at hw
    cases hw
    exact g3 (j, cv b sc v) List.mem_cons_self
  · rw [List.getElem?_set_ne (Ne.symm hj)] at hw
    refine g3 (j, cv b sc w) (List.mem_cons_of_mem _ (List.mem_filter.mpr ⟨List.mem_filterMap.mpr ⟨(w, j), List.mem_zipIdx_iff_getElem?.mpr (by simpa using hw), by dsimp only; rw [if_neg h9]⟩, ?_⟩))
    dsimp only
    rw [Bool.and_eq_true]
    refine ⟨by simp [hj], ?_⟩
    by_cases hji : j + 1 = i
    · have h2 : w.1 ≠ 2 := by
        unfold stO at ho
        rw [Bool.or_eq_true] at ho
        rcases ho with ho | ho
        · have := eq_of_beq ho; omega
        · rw [show i - 1 = j by omega, hw] at ho
          intro q
          simp [q] at ho
      rw [cv_cat, if_neg h2]
      simp
    · simp [hji]
theorem LH.put2 {b : Nat} {sc : Nat → Nat} {ls : Array Slot} {nL : Nat} {al : List AV} {i : Nat} {x y : Int} {t : Nat} (h : LH b sc ls nL al) (ho : stO al i = true) (hi : i + 1 < nL) :
    ∃ ls', storeLocals ls i (cv b sc (2, x)) = some ls' ∧ LH b sc ls' nL ((al.set i (2, x)).set (i + 1) (9, 0)) := by
  have hcat : (cv b sc (2, x)).category = 2 := rfl
  obtain ⟨ls', e, g1, g2, g3⟩ := lv_store2 (l := al.zipIdx.filterMap (fun (q : AV × Nat) => if q.1.1 = 9 then none else some (q.2, cv b sc q.1))) (v := cv b sc (2, x)) (i := i) ⟨h.1, h.2.1, by
    intro q hq
    obtain ⟨⟨w, j⟩, h1, h2⟩ := List.mem_filterMap.mp hq
    dsimp only at h2
    split at h2
    · cases h2
    · rename_i h9
      cases h2
      exact h.2.2 j w (by have := List.mem_zipIdx_iff_getElem?.mp h1; simpa using this) h9⟩ hi hcat
  refine ⟨ls', e, g1, g2, fun j w hw h9 => ?_⟩
  by_cases hj1 : j = i + 1
  · subst hj1
    have hlt : i + 1 < ((al.set i (2, x)).set (i + 1) (9, 0)).length := (List.getElem?_eq_some_iff.mp hw).1
    rw [List.getElem?_set_self (by simpa using hlt)] at hw
    cases hw
    exact absurd rfl h9
  rw [List.getElem?_set_ne (Ne.symm hj1)] at hw
  by_cases hj : j = i
  · subst hj
    have : j < al.length := by
      have := (List.getElem?_eq_some_iff.mp hw).1
      simpa using this
    rw [List.getElem?_set_self this] at hw
    cases hw
    exact g3 (j, cv b sc (2, x)) List.mem_cons_self
  · rw [List.getElem?_set_ne (Ne.symm hj)] at hw
    refine g3 (j, cv b sc w) (List.mem_cons_of_mem _ (List.mem_filter.mpr ⟨List.mem_filterMap.mpr ⟨(w, j), List.mem_zipIdx_iff_getElem?.mpr (by simpa using hw), by dsimp only; rw [if_neg h9]⟩, ?_⟩))
    dsimp only
    rw [Bool.and_eq_true, Bool.and_eq_true]
    refine ⟨by simp [hj], by simp [hj1], ?_⟩
    by_cases hji : j + 1 = i
    · have h2 : w.1 ≠ 2 := by
        unfold stO at ho
        rw [Bool.or_eq_true] at ho
        rcases ho with ho | ho
        · have := eq_of_beq ho; omega
        · rw [show i - 1 = j by omega, hw] at ho
          intro q
          simp [q] at ho
      rw [cv_cat, if_neg h2]
      simp
    · simp [hji]
theorem okL_set {al : List AV} {i : Nat} {v : AV} (h : okL al) (hv : okA v) : okL (al.set i v) := fun w hw => by
  rcases List.mem_or_eq_of_mem_set hw with h1 | rfl
  · exact h w h1
  · exact hv
theorem okA_9 : okA (9, 0) := ⟨fun q => absurd q (show ¬ (9 : Nat) = 0 by decide), fun q => absurd q (show ¬ (9 : Nat) = 2 by decide)⟩
theorem r_istore_n {j : Fin 4} (d : decode k.2.1 pc = .ok (.istore_n j, 1)) (ho9 : stO al (j : Nat) = true) (hi : (j : Nat) < k.2.2.1) (he : al.set (j : Nat) (0, x) = al') (kk : V k c1 c2 dd xs Q (pc + 1) al' st S M n1 n2) : V k c1 c2 dd xs Q pc al ((0, x) :: st) S M n1 n2 := by
  intro p l e R s m args below meth c b κ D sc Tg H locs ls Cc F hn12 hW hL ho hS
  obtain ⟨⟨hx, hb, hml, hown, hnm, hlk⟩, hts, hR, hb0, hK, hN, hSt, hSc⟩ := id Cc
  subst he
  obtain ⟨ls', e', h'⟩ := hL.put (v := (0, x)) ho9 (show (0 : Nat) ≠ 2 by decide) hi
  have e' : storeLocals ls (j : Nat) (.int (Int32.ofInt x)) = some ls' := e'
  rw [List.map_cons, show cv b sc (0, x) = .int (Int32.ofInt x) from rfl]
  intro T hT X
  obtain ⟨t, a9, b9⟩ := (kk p l e R s m args below meth c b κ D sc Tg H locs ls' Cc F hn12 hW h' ⟨okL_set ho.1 (okL_cons.mp ho.2).1, (okL_cons.mp ho.2).2⟩ hS) T hT X
  refine ⟨t, ?_, b9⟩
  jvm_step X.here [X.here.top, ↓top_set X.here.top, hx, hb, d, e']
  exact a9
theorem r_istore (d : decode k.2.1 pc = .ok (.istore i, 2)) (ho9 : stO al i = true) (hi : i < k.2.2.1) (he : al.set i (0, x) = al') (kk : V k c1 c2 dd xs Q (pc + 2) al' st S M n1 n2) : V k c1 c2 dd xs Q pc al ((0, x) :: st) S M n1 n2 := by
  intro p l e R s m args below meth c b κ D sc Tg H locs ls Cc F hn12 hW hL ho hS
  obtain ⟨⟨hx, hb, hml, hown, hnm, hlk⟩, hts, hR, hb0, hK, hN, hSt, hSc⟩ := id Cc
  subst he
  obtain ⟨ls', e', h'⟩ := hL.put (v := (0, x)) ho9 (show (0 : Nat) ≠ 2 by decide) hi
  have e' : storeLocals ls i (.int (Int32.ofInt x)) = some ls' := e'
  rw [List.map_cons, show cv b sc (0, x) = .int (Int32.ofInt x) from rfl]
  intro T hT X
  obtain ⟨t, a9, b9⟩ := (kk p l e R s m args below meth c b κ D sc Tg H locs ls' Cc F hn12 hW h' ⟨okL_set ho.1 (okL_cons.mp ho.2).1, (okL_cons.mp ho.2).2⟩ hS) T hT X
  refine ⟨t, ?_, b9⟩
  jvm_step X.here [X.here.top, ↓top_set X.here.top, hx, hb, d, e']
  exact a9
theorem r_astore_n {j : Fin 4} (d : decode k.2.1 pc = .ok (.astore_n j, 1)) (hx9 : 0 ≤ x) (ho9 : stO al (j : Nat) = true) (hi : (j : Nat) < k.2.2.1) (he : al.set (j : Nat) (1, x) = al') (kk : V k c1 c2 dd xs Q (pc + 1) al' st S M n1 n2) : V k c1 c2 dd xs Q pc al ((1, x) :: st) S M n1 n2 := by
  intro p l e R s m args below meth c b κ D sc Tg H locs ls Cc F hn12 hW hL ho hS
  obtain ⟨⟨hx, hb, hml, hown, hnm, hlk⟩, hts, hR, hb0, hK, hN, hSt, hSc⟩ := id Cc
  subst he
  obtain ⟨ls', e', h'⟩ := hL.put (v := (1, x)) ho9 (show (1 : Nat) ≠ 2 by decide) hi
  rw [cv_ref hx9] at e'
  rw [List.map_cons, cv_ref hx9]
  intro T hT X
  obtain ⟨t, a9, b9⟩ := (kk p l e R s m args below meth c b κ D sc Tg H locs ls' Cc F hn12 hW h' ⟨okL_set ho.1 (okL_cons.mp ho.2).1, (okL_cons.mp ho.2).2⟩ hS) T hT X
  refine ⟨t, ?_, b9⟩
  jvm_step X.here [X.here.top, ↓top_set X.here.top, hx, hb, d, e', Value.isRef]
  exact a9
theorem r_astore (d : decode k.2.1 pc = .ok (.astore i, 2)) (hx9 : 0 ≤ x) (ho9 : stO al i = true) (hi : i < k.2.2.1) (he : al.set i (1, x) = al') (kk : V k c1 c2 dd xs Q (pc + 2) al' st S M n1 n2) : V k c1 c2 dd xs Q pc al ((1, x) :: st) S M n1 n2 := by
  intro p l e R s m args below meth c b κ D sc Tg H locs ls Cc F hn12 hW hL ho hS
  obtain ⟨⟨hx, hb, hml, hown, hnm, hlk⟩, hts, hR, hb0, hK, hN, hSt, hSc⟩ := id Cc
  subst he
  obtain ⟨ls', e', h'⟩ := hL.put (v := (1, x)) ho9 (show (1 : Nat) ≠ 2 by decide) hi
  rw [cv_ref hx9] at e'
  rw [List.map_cons, cv_ref hx9]
  intro T hT X
  obtain ⟨t, a9, b9⟩ := (kk p l e R s m args below meth c b κ D sc Tg H locs ls' Cc F hn12 hW h' ⟨okL_set ho.1 (okL_cons.mp ho.2).1, (okL_cons.mp ho.2).2⟩ hS) T hT X
  refine ⟨t, ?_, b9⟩
  jvm_step X.here [X.here.top, ↓top_set X.here.top, hx, hb, d, e', Value.isRef]
  exact a9
theorem r_lstore_n {j : Fin 4} (d : decode k.2.1 pc = .ok (.lstore_n j, 1)) (ho9 : stO al (j : Nat) = true) (hi : (j : Nat) + 1 < k.2.2.1) (he : (al.set (j : Nat) (2, x)).set ((j : Nat) + 1) (9, 0) = al') (kk : V k c1 c2 dd xs Q (pc + 1) al' st S M n1 n2) : V k c1 c2 dd xs Q pc al ((2, x) :: st) S M n1 n2 := by
  intro p l e R s m args below meth c b κ D sc Tg H locs ls Cc F hn12 hW hL ho hS
  obtain ⟨⟨hx, hb, hml, hown, hnm, hlk⟩, hts, hR, hb0, hK, hN, hSt, hSc⟩ := id Cc
  subst he
  obtain ⟨ls', e', h'⟩ := hL.put2 (x := x) (y := 0) (t := 0) ho9 hi
  have e' : storeLocals ls (j : Nat) (.long (Int64.ofInt x)) = some ls' := e'
  rw [List.map_cons, show cv b sc (2, x) = .long (Int64.ofInt x) from rfl]
  intro T hT X
  obtain ⟨t, a9, b9⟩ := (kk p l e R s m args below meth c b κ D sc Tg H locs ls' Cc F hn12 hW h' ⟨okL_set (okL_set ho.1 (okL_cons.mp ho.2).1) okA_9, (okL_cons.mp ho.2).2⟩ hS) T hT X
  refine ⟨t, ?_, b9⟩
  jvm_step X.here [X.here.top, ↓top_set X.here.top, hx, hb, d, e']
  exact a9
theorem r_lstore (d : decode k.2.1 pc = .ok (.lstore i, 2)) (ho9 : stO al i = true) (hi : i + 1 < k.2.2.1) (he : (al.set i (2, x)).set (i + 1) (9, 0) = al') (kk : V k c1 c2 dd xs Q (pc + 2) al' st S M n1 n2) : V k c1 c2 dd xs Q pc al ((2, x) :: st) S M n1 n2 := by
  intro p l e R s m args below meth c b κ D sc Tg H locs ls Cc F hn12 hW hL ho hS
  obtain ⟨⟨hx, hb, hml, hown, hnm, hlk⟩, hts, hR, hb0, hK, hN, hSt, hSc⟩ := id Cc
  subst he
  obtain ⟨ls', e', h'⟩ := hL.put2 (x := x) (y := 0) (t := 0) ho9 hi
  have e' : storeLocals ls i (.long (Int64.ofInt x)) = some ls' := e'
  rw [List.map_cons, show cv b sc (2, x) = .long (Int64.ofInt x) from rfl]
  intro T hT X
  obtain ⟨t, a9, b9⟩ := (kk p l e R s m args below meth c b κ D sc Tg H locs ls' Cc F hn12 hW h' ⟨okL_set (okL_set ho.1 (okL_cons.mp ho.2).1) okA_9, (okL_cons.mp ho.2).2⟩ hS) T hT X
  refine ⟨t, ?_, b9⟩
  jvm_step X.here [X.here.top, ↓top_set X.here.top, hx, hb, d, e']
  exact a9
theorem r_iinc {z : Int} (d : decode k.2.1 pc = .ok (.iinc i z, 3)) (h : al[i]? = some (0, x)) (ho9 : stO al i = true) (hi : i < k.2.2.1) (hy : w32 (x + z) = y) (he : al.set i (0, y) = al') (kk : V k c1 c2 dd xs Q (pc + 3) al' st S M n1 n2) : V k c1 c2 dd xs Q pc al st S M n1 n2 := by
  intro p l e R s m args below meth c b κ D sc Tg H locs ls Cc F hn12 hW hL ho hS
  obtain ⟨⟨hx, hb, hml, hown, hnm, hlk⟩, hts, hR, hb0, hK, hN, hSt, hSc⟩ := id Cc
  subst he
  subst hy
  obtain ⟨ls', e', h'⟩ := hL.put (v := (0, w32 (x + z))) ho9 (show (0 : Nat) ≠ 2 by decide) hi
  have e' : storeLocals ls i (.int (Int32.ofInt x + Int32.ofInt z)) = some ls' := by rw [oI_add]; exact e'
  have hg := hL.2.2 _ _ h (show (0 : Nat) ≠ 9 by decide)
  have hg : ls[i]? = some (.val (.int (Int32.ofInt x))) := hg
  intro T hT X
  obtain ⟨t, a9, b9⟩ := (kk p l e R s m args below meth c b κ D sc Tg H locs ls' Cc F hn12 hW h' ⟨okL_set ho.1 (okA_i (w32_in _)), ho.2⟩ hS) T hT X
  refine ⟨t, ?_, b9⟩
  jvm_step X.here [X.here.top, ↓top_set X.here.top, hx, hb, d, e', hg]
  exact a9
theorem r_goto (d : decode k.2.1 pc = .ok (.goto off, 3)) (ht : (pc : Int) + off = (tgt : Int)) (kk : V k c1 c2 dd xs Q tgt al st S M n1 n2) : V k c1 c2 dd xs Q pc al st S M n1 n2 := by
  intro p l e R s m args below meth c b κ D sc Tg H locs ls Cc F hn12 hW hL ho hS
  obtain ⟨⟨hx, hb, hml, hown, hnm, hlk⟩, hts, hR, hb0, hK, hN, hSt, hSc⟩ := id Cc
  exact lv_goto hx hb d ht (kk p l e R s m args below meth c b κ D sc Tg H locs ls Cc F hn12 hW hL ⟨ho.1, ho.2⟩ hS)
theorem r_iadd (d : decode k.2.1 pc = .ok (.iadd, 1)) (hz : w32 (x + y) = z) (kk : V k c1 c2 dd xs Q (pc + 1) al ((0, z) :: st) S M n1 n2) : V k c1 c2 dd xs Q pc al ((0, y) :: (0, x) :: st) S M n1 n2 := by
  intro p l e R s m args below meth c b κ D sc Tg H locs ls Cc F hn12 hW hL ho hS
  obtain ⟨⟨hx, hb, hml, hown, hnm, hlk⟩, hts, hR, hb0, hK, hN, hSt, hSc⟩ := id Cc
  subst hz
  refine lv_iadd (x := Int32.ofInt x) (y := Int32.ofInt y) (rest := st.map (cv b sc)) hx hb d ?_
  rw [oI_add]
  exact kk p l e R s m args below meth c b κ D sc Tg H locs ls Cc F hn12 hW hL ⟨ho.1, okL_cons.mpr ⟨okA_i (w32_in _), (ok2 ho.2).2.2⟩⟩ hS
theorem r_isub (d : decode k.2.1 pc = .ok (.isub, 1)) (hz : w32 (x - y) = z) (kk : V k c1 c2 dd xs Q (pc + 1) al ((0, z) :: st) S M n1 n2) : V k c1 c2 dd xs Q pc al ((0, y) :: (0, x) :: st) S M n1 n2 := by
  intro p l e R s m args below meth c b κ D sc Tg H locs ls Cc F hn12 hW hL ho hS
  obtain ⟨⟨hx, hb, hml, hown, hnm, hlk⟩, hts, hR, hb0, hK, hN, hSt, hSc⟩ := id Cc
  subst hz
  refine lv_isub (x := Int32.ofInt x) (y := Int32.ofInt y) (rest := st.map (cv b sc)) hx hb d ?_
  rw [oI_sub]
  exact kk p l e R s m args below meth c b κ D sc Tg H locs ls Cc F hn12 hW hL ⟨ho.1, okL_cons.mpr ⟨okA_i (w32_in _), (ok2 ho.2).2.2⟩⟩ hS
theorem r_imul (d : decode k.2.1 pc = .ok (.imul, 1)) (hz : w32 (x * y) = z) (kk : V k c1 c2 dd xs Q (pc + 1) al ((0, z) :: st) S M n1 n2) : V k c1 c2 dd xs Q pc al ((0, y) :: (0, x) :: st) S M n1 n2 := by
  intro p l e R s m args below meth c b κ D sc Tg H locs ls Cc F hn12 hW hL ho hS
  obtain ⟨⟨hx, hb, hml, hown, hnm, hlk⟩, hts, hR, hb0, hK, hN, hSt, hSc⟩ := id Cc
  subst hz
  refine lv_imul (x := Int32.ofInt x) (y := Int32.ofInt y) (rest := st.map (cv b sc)) hx hb d ?_
  rw [oI_mul]
  exact kk p l e R s m args below meth c b κ D sc Tg H locs ls Cc F hn12 hW hL ⟨ho.1, okL_cons.mpr ⟨okA_i (w32_in _), (ok2 ho.2).2.2⟩⟩ hS
theorem r_ladd (d : decode k.2.1 pc = .ok (.ladd, 1)) (hz : w64 (x + y) = z) (kk : V k c1 c2 dd xs Q (pc + 1) al ((2, z) :: st) S M n1 n2) : V k c1 c2 dd xs Q pc al ((2, y) :: (2, x) :: st) S M n1 n2 := by
  intro p l e R s m args below meth c b κ D sc Tg H locs ls Cc F hn12 hW hL ho hS
  obtain ⟨⟨hx, hb, hml, hown, hnm, hlk⟩, hts, hR, hb0, hK, hN, hSt, hSc⟩ := id Cc
  subst hz
  refine lv_ladd (x := Int64.ofInt x) (y := Int64.ofInt y) (rest := st.map (cv b sc)) hx hb d ?_
  rw [oL_add]
  exact kk p l e R s m args below meth c b κ D sc Tg H locs ls Cc F hn12 hW hL ⟨ho.1, okL_cons.mpr ⟨okA_l (w64_in _), (ok2 ho.2).2.2⟩⟩ hS
theorem r_lsub (d : decode k.2.1 pc = .ok (.lsub, 1)) (hz : w64 (x - y) = z) (kk : V k c1 c2 dd xs Q (pc + 1) al ((2, z) :: st) S M n1 n2) : V k c1 c2 dd xs Q pc al ((2, y) :: (2, x) :: st) S M n1 n2 := by
  intro p l e R s m args below meth c b κ D sc Tg H locs ls Cc F hn12 hW hL ho hS
  obtain ⟨⟨hx, hb, hml, hown, hnm, hlk⟩, hts, hR, hb0, hK, hN, hSt, hSc⟩ := id Cc
  subst hz
  refine lv_lsub (x := Int64.ofInt x) (y := Int64.ofInt y) (rest := st.map (cv b sc)) hx hb d ?_
  rw [oL_sub]
  exact kk p l e R s m args below meth c b κ D sc Tg H locs ls Cc F hn12 hW hL ⟨ho.1, okL_cons.mpr ⟨okA_l (w64_in _), (ok2 ho.2).2.2⟩⟩ hS
theorem r_lmul (d : decode k.2.1 pc = .ok (.lmul, 1)) (hz : w64 (x * y) = z) (kk : V k c1 c2 dd xs Q (pc + 1) al ((2, z) :: st) S M n1 n2) : V k c1 c2 dd xs Q pc al ((2, y) :: (2, x) :: st) S M n1 n2 := by
  intro p l e R s m args below meth c b κ D sc Tg H locs ls Cc F hn12 hW hL ho hS
  obtain ⟨⟨hx, hb, hml, hown, hnm, hlk⟩, hts, hR, hb0, hK, hN, hSt, hSc⟩ := id Cc
  subst hz
  refine lv_lmul (x := Int64.ofInt x) (y := Int64.ofInt y) (rest := st.map (cv b sc)) hx hb d ?_
  rw [oL_mul]
  exact kk p l e R s m args below meth c b κ D sc Tg H locs ls Cc F hn12 hW hL ⟨ho.1, okL_cons.mpr ⟨okA_l (w64_in _), (ok2 ho.2).2.2⟩⟩ hS
theorem r_idiv (d : decode k.2.1 pc = .ok (.idiv, 1)) (hy : y ≠ 0) (hz : w32 (x.tdiv y) = z) (kk : V k c1 c2 dd xs Q (pc + 1) al ((0, z) :: st) S M n1 n2) : V k c1 c2 dd xs Q pc al ((0, y) :: (0, x) :: st) S M n1 n2 := by
  intro p l e R s m args below meth c b κ D sc Tg H locs ls Cc F hn12 hW hL ho hS
  obtain ⟨⟨hx, hb, hml, hown, hnm, hlk⟩, hts, hR, hb0, hK, hN, hSt, hSc⟩ := id Cc
  subst hz
  have hy1 := (ok2 ho.2).1.1 rfl
  have hx1 := (ok2 ho.2).2.1.1 rfl
  refine lv_idiv (x := Int32.ofInt x) (y := Int32.ofInt y) (rest := st.map (cv b sc)) hx hb d (fun q => hy ((oI_eq hy1 (by decide)).mp q)) ?_
  rw [oI_div hx1 hy1]
  exact kk p l e R s m args below meth c b κ D sc Tg H locs ls Cc F hn12 hW hL ⟨ho.1, okL_cons.mpr ⟨okA_i (w32_in _), (ok2 ho.2).2.2⟩⟩ hS
theorem r_ldiv (d : decode k.2.1 pc = .ok (.ldiv, 1)) (hy : y ≠ 0) (hz : w64 (x.tdiv y) = z) (kk : V k c1 c2 dd xs Q (pc + 1) al ((2, z) :: st) S M n1 n2) : V k c1 c2 dd xs Q pc al ((2, y) :: (2, x) :: st) S M n1 n2 := by
  intro p l e R s m args below meth c b κ D sc Tg H locs ls Cc F hn12 hW hL ho hS
  obtain ⟨⟨hx, hb, hml, hown, hnm, hlk⟩, hts, hR, hb0, hK, hN, hSt, hSc⟩ := id Cc
  subst hz
  have hy1 := (ok2 ho.2).1.2 rfl
  have hx1 := (ok2 ho.2).2.1.2 rfl
  refine lv_ldiv (x := Int64.ofInt x) (y := Int64.ofInt y) (rest := st.map (cv b sc)) hx hb d (fun q => hy ((oL_eq hy1 (by decide)).mp q)) ?_
  rw [oL_div hx1 hy1]
  exact kk p l e R s m args below meth c b κ D sc Tg H locs ls Cc F hn12 hW hL ⟨ho.1, okL_cons.mpr ⟨okA_l (w64_in _), (ok2 ho.2).2.2⟩⟩ hS
theorem r_irem (d : decode k.2.1 pc = .ok (.irem, 1)) (hy : y ≠ 0) (hz : x.tmod y = z) (kk : V k c1 c2 dd xs Q (pc + 1) al ((0, z) :: st) S M n1 n2) : V k c1 c2 dd xs Q pc al ((0, y) :: (0, x) :: st) S M n1 n2 := by
  intro p l e R s m args below meth c b κ D sc Tg H locs ls Cc F hn12 hW hL ho hS
  obtain ⟨⟨hx, hb, hml, hown, hnm, hlk⟩, hts, hR, hb0, hK, hN, hSt, hSc⟩ := id Cc
  subst hz
  have hy1 := (ok2 ho.2).1.1 rfl
  have hx1 := (ok2 ho.2).2.1.1 rfl
  have hz1 := tmod_in (y := y) (by decide) (by decide) hx1
  refine lv_irem (x := Int32.ofInt x) (y := Int32.ofInt y) (rest := st.map (cv b sc)) hx hb d (fun q => hy ((oI_eq hy1 (by decide)).mp q)) ?_
  rw [oI_rem hx1 hy1]
  exact kk p l e R s m args below meth c b κ D sc Tg H locs ls Cc F hn12 hW hL ⟨ho.1, okL_cons.mpr ⟨okA_i hz1, (ok2 ho.2).2.2⟩⟩ hS
theorem r_lrem (d : decode k.2.1 pc = .ok (.lrem, 1)) (hy : y ≠ 0) (hz : x.tmod y = z) (kk : V k c1 c2 dd xs Q (pc + 1) al ((2, z) :: st) S M n1 n2) : V k c1 c2 dd xs Q pc al ((2, y) :: (2, x) :: st) S M n1 n2 := by
  intro p l e R s m args below meth c b κ D sc Tg H locs ls Cc F hn12 hW hL ho hS
  obtain ⟨⟨hx, hb, hml, hown, hnm, hlk⟩, hts, hR, hb0, hK, hN, hSt, hSc⟩ := id Cc
  subst hz
  have hy1 := (ok2 ho.2).1.2 rfl
  have hx1 := (ok2 ho.2).2.1.2 rfl
  have hz1 := tmod_in (y := y) (by decide) (by decide) hx1
  refine lv_lrem (x := Int64.ofInt x) (y := Int64.ofInt y) (rest := st.map (cv b sc)) hx hb d (fun q => hy ((oL_eq hy1 (by decide)).mp q)) ?_
  rw [oL_rem hx1 hy1]
  exact kk p l e R s m args below meth c b κ D sc Tg H locs ls Cc F hn12 hW hL ⟨ho.1, okL_cons.mpr ⟨okA_l hz1, (ok2 ho.2).2.2⟩⟩ hS
theorem r_ineg (d : decode k.2.1 pc = .ok (.ineg, 1)) (hz : w32 (-x) = z) (kk : V k c1 c2 dd xs Q (pc + 1) al ((0, z) :: st) S M n1 n2) : V k c1 c2 dd xs Q pc al ((0, x) :: st) S M n1 n2 := by
  intro p l e R s m args below meth c b κ D sc Tg H locs ls Cc F hn12 hW hL ho hS
  obtain ⟨⟨hx, hb, hml, hown, hnm, hlk⟩, hts, hR, hb0, hK, hN, hSt, hSc⟩ := id Cc
  subst hz
  refine lv_ineg (x := Int32.ofInt x) (rest := st.map (cv b sc)) hx hb d ?_
  rw [oI_neg]
  exact kk p l e R s m args below meth c b κ D sc Tg H locs ls Cc F hn12 hW hL ⟨ho.1, okL_cons.mpr ⟨okA_i (w32_in _), (okL_cons.mp ho.2).2⟩⟩ hS
theorem r_lneg (d : decode k.2.1 pc = .ok (.lneg, 1)) (hz : w64 (-x) = z) (kk : V k c1 c2 dd xs Q (pc + 1) al ((2, z) :: st) S M n1 n2) : V k c1 c2 dd xs Q pc al ((2, x) :: st) S M n1 n2 := by
  intro p l e R s m args below meth c b κ D sc Tg H locs ls Cc F hn12 hW hL ho hS
  obtain ⟨⟨hx, hb, hml, hown, hnm, hlk⟩, hts, hR, hb0, hK, hN, hSt, hSc⟩ := id Cc
  subst hz
  refine lv_lneg (x := Int64.ofInt x) (rest := st.map (cv b sc)) hx hb d ?_
  rw [oL_neg]
  exact kk p l e R s m args below meth c b κ D sc Tg H locs ls Cc F hn12 hW hL ⟨ho.1, okL_cons.mpr ⟨okA_l (w64_in _), (okL_cons.mp ho.2).2⟩⟩ hS
theorem r_iand (d : decode k.2.1 pc = .ok (.iand, 1)) (hz : and32 x y = z) (kk : V k c1 c2 dd xs Q (pc + 1) al ((0, z) :: st) S M n1 n2) : V k c1 c2 dd xs Q pc al ((0, y) :: (0, x) :: st) S M n1 n2 := by
  intro p l e R s m args below meth c b κ D sc Tg H locs ls Cc F hn12 hW hL ho hS
  obtain ⟨⟨hx, hb, hml, hown, hnm, hlk⟩, hts, hR, hb0, hK, hN, hSt, hSc⟩ := id Cc
  subst hz
  refine lv_iand (x := Int32.ofInt x) (y := Int32.ofInt y) (rest := st.map (cv b sc)) hx hb d (W.mv ?_ (kk p l e R s m args below meth c b κ D sc Tg H locs ls Cc F hn12 hW hL ⟨ho.1, okL_cons.mpr ⟨okA_i (oI_in _), (ok2 ho.2).2.2⟩⟩ hS))
  show _ = Value.int (Int32.ofInt (and32 x y)) :: _
  unfold and32; rw [Int32.ofInt_toInt]
theorem r_ior (d : decode k.2.1 pc = .ok (.ior, 1)) (hz : or32 x y = z) (kk : V k c1 c2 dd xs Q (pc + 1) al ((0, z) :: st) S M n1 n2) : V k c1 c2 dd xs Q pc al ((0, y) :: (0, x) :: st) S M n1 n2 := by
  intro p l e R s m args below meth c b κ D sc Tg H locs ls Cc F hn12 hW hL ho hS
  obtain ⟨⟨hx, hb, hml, hown, hnm, hlk⟩, hts, hR, hb0, hK, hN, hSt, hSc⟩ := id Cc
  subst hz
  refine lv_ior (x := Int32.ofInt x) (y := Int32.ofInt y) (rest := st.map (cv b sc)) hx hb d (W.mv ?_ (kk p l e R s m args below meth c b κ D sc Tg H locs ls Cc F hn12 hW hL ⟨ho.1, okL_cons.mpr ⟨okA_i (oI_in _), (ok2 ho.2).2.2⟩⟩ hS))
  show _ = Value.int (Int32.ofInt (or32 x y)) :: _
  unfold or32; rw [Int32.ofInt_toInt]
theorem r_ixor (d : decode k.2.1 pc = .ok (.ixor, 1)) (hz : xor32 x y = z) (kk : V k c1 c2 dd xs Q (pc + 1) al ((0, z) :: st) S M n1 n2) : V k c1 c2 dd xs Q pc al ((0, y) :: (0, x) :: st) S M n1 n2 := by
  intro p l e R s m args below meth c b κ D sc Tg H locs ls Cc F hn12 hW hL ho hS
  obtain ⟨⟨hx, hb, hml, hown, hnm, hlk⟩, hts, hR, hb0, hK, hN, hSt, hSc⟩ := id Cc
  subst hz
  refine lv_ixor (x := Int32.ofInt x) (y := Int32.ofInt y) (rest := st.map (cv b sc)) hx hb d (W.mv ?_ (kk p l e R s m args below meth c b κ D sc Tg H locs ls Cc F hn12 hW hL ⟨ho.1, okL_cons.mpr ⟨okA_i (oI_in _), (ok2 ho.2).2.2⟩⟩ hS))
  show _ = Value.int (Int32.ofInt (xor32 x y)) :: _
  unfold xor32; rw [Int32.ofInt_toInt]
theorem r_ishl (d : decode k.2.1 pc = .ok (.ishl, 1)) (hz : shl32 x y = z) (kk : V k c1 c2 dd xs Q (pc + 1) al ((0, z) :: st) S M n1 n2) : V k c1 c2 dd xs Q pc al ((0, y) :: (0, x) :: st) S M n1 n2 := by
  intro p l e R s m args below meth c b κ D sc Tg H locs ls Cc F hn12 hW hL ho hS
  obtain ⟨⟨hx, hb, hml, hown, hnm, hlk⟩, hts, hR, hb0, hK, hN, hSt, hSc⟩ := id Cc
  subst hz
  refine lv_ishl (x := Int32.ofInt x) (y := Int32.ofInt y) (rest := st.map (cv b sc)) hx hb d (W.mv ?_ (kk p l e R s m args below meth c b κ D sc Tg H locs ls Cc F hn12 hW hL ⟨ho.1, okL_cons.mpr ⟨okA_i (oI_in _), (ok2 ho.2).2.2⟩⟩ hS))
  show _ = Value.int (Int32.ofInt (shl32 x y)) :: _
  unfold shl32; rw [Int32.ofInt_toInt]
theorem r_ishr (d : decode k.2.1 pc = .ok (.ishr, 1)) (hz : shr32 x y = z) (kk : V k c1 c2 dd xs Q (pc + 1) al ((0, z) :: st) S M n1 n2) : V k c1 c2 dd xs Q pc al ((0, y) :: (0, x) :: st) S M n1 n2 := by
  intro p l e R s m args below meth c b κ D sc Tg H locs ls Cc F hn12 hW hL ho hS
  obtain ⟨⟨hx, hb, hml, hown, hnm, hlk⟩, hts, hR, hb0, hK, hN, hSt, hSc⟩ := id Cc
  subst hz
  refine lv_ishr (x := Int32.ofInt x) (y := Int32.ofInt y) (rest := st.map (cv b sc)) hx hb d (W.mv ?_ (kk p l e R s m args below meth c b κ D sc Tg H locs ls Cc F hn12 hW hL ⟨ho.1, okL_cons.mpr ⟨okA_i (oI_in _), (ok2 ho.2).2.2⟩⟩ hS))
  show _ = Value.int (Int32.ofInt (shr32 x y)) :: _
  unfold shr32; rw [Int32.ofInt_toInt]
theorem r_iushr (d : decode k.2.1 pc = .ok (.iushr, 1)) (hz : ushr32 x y = z) (kk : V k c1 c2 dd xs Q (pc + 1) al ((0, z) :: st) S M n1 n2) : V k c1 c2 dd xs Q pc al ((0, y) :: (0, x) :: st) S M n1 n2 := by
  intro p l e R s m args below meth c b κ D sc Tg H locs ls Cc F hn12 hW hL ho hS
  obtain ⟨⟨hx, hb, hml, hown, hnm, hlk⟩, hts, hR, hb0, hK, hN, hSt, hSc⟩ := id Cc
  subst hz
  refine lv_iushr (x := Int32.ofInt x) (y := Int32.ofInt y) (v := Int32.ofInt (ushr32 x y)) (rest := st.map (cv b sc)) hx hb d ?_ (kk p l e R s m args below meth c b κ D sc Tg H locs ls Cc F hn12 hW hL ⟨ho.1, okL_cons.mpr ⟨okA_i (oI_in _), (ok2 ho.2).2.2⟩⟩ hS)
  unfold ushr32; rw [Int32.ofInt_toInt]
theorem r_lor (d : decode k.2.1 pc = .ok (.lor, 1)) (hz : or64 x y = z) (kk : V k c1 c2 dd xs Q (pc + 1) al ((2, z) :: st) S M n1 n2) : V k c1 c2 dd xs Q pc al ((2, y) :: (2, x) :: st) S M n1 n2 := by
  intro p l e R s m args below meth c b κ D sc Tg H locs ls Cc F hn12 hW hL ho hS
  obtain ⟨⟨hx, hb, hml, hown, hnm, hlk⟩, hts, hR, hb0, hK, hN, hSt, hSc⟩ := id Cc
  subst hz
  refine lv_lor (x := Int64.ofInt x) (y := Int64.ofInt y) (rest := st.map (cv b sc)) hx hb d (W.mv ?_ (kk p l e R s m args below meth c b κ D sc Tg H locs ls Cc F hn12 hW hL ⟨ho.1, okL_cons.mpr ⟨okA_l (oL_in _), (ok2 ho.2).2.2⟩⟩ hS))
  show _ = Value.long (Int64.ofInt (or64 x y)) :: _
  unfold or64; rw [Int64.ofInt_toInt]
theorem r_lshl (d : decode k.2.1 pc = .ok (.lshl, 1)) (hz : shl64 x y = z) (kk : V k c1 c2 dd xs Q (pc + 1) al ((2, z) :: st) S M n1 n2) : V k c1 c2 dd xs Q pc al ((0, y) :: (2, x) :: st) S M n1 n2 := by
  intro p l e R s m args below meth c b κ D sc Tg H locs ls Cc F hn12 hW hL ho hS
  obtain ⟨⟨hx, hb, hml, hown, hnm, hlk⟩, hts, hR, hb0, hK, hN, hSt, hSc⟩ := id Cc
  subst hz
  refine lv_lshl (x := Int64.ofInt x) (y := Int32.ofInt y) (v := Int64.ofInt (shl64 x y)) (rest := st.map (cv b sc)) hx hb d ?_ (kk p l e R s m args below meth c b κ D sc Tg H locs ls Cc F hn12 hW hL ⟨ho.1, okL_cons.mpr ⟨okA_l (oL_in _), (ok2 ho.2).2.2⟩⟩ hS)
  unfold shl64; rw [Int64.ofInt_toInt]
theorem r_lshr (d : decode k.2.1 pc = .ok (.lshr, 1)) (hz : shr64 x y = z) (kk : V k c1 c2 dd xs Q (pc + 1) al ((2, z) :: st) S M n1 n2) : V k c1 c2 dd xs Q pc al ((0, y) :: (2, x) :: st) S M n1 n2 := by
  intro p l e R s m args below meth c b κ D sc Tg H locs ls Cc F hn12 hW hL ho hS
  obtain ⟨⟨hx, hb, hml, hown, hnm, hlk⟩, hts, hR, hb0, hK, hN, hSt, hSc⟩ := id Cc
  subst hz
  refine lv_lshr (x := Int64.ofInt x) (y := Int32.ofInt y) (v := Int64.ofInt (shr64 x y)) (rest := st.map (cv b sc)) hx hb d ?_ (kk p l e R s m args below meth c b κ D sc Tg H locs ls Cc F hn12 hW hL ⟨ho.1, okL_cons.mpr ⟨okA_l (oL_in _), (ok2 ho.2).2.2⟩⟩ hS)
  unfold shr64; rw [Int64.ofInt_toInt]
theorem r_i2l (d : decode k.2.1 pc = .ok (.i2l, 1)) (kk : V k c1 c2 dd xs Q (pc + 1) al ((2, x) :: st) S M n1 n2) : V k c1 c2 dd xs Q pc al ((0, x) :: st) S M n1 n2 := by
  intro p l e R s m args below meth c b κ D sc Tg H locs ls Cc F hn12 hW hL ho hS
  obtain ⟨⟨hx, hb, hml, hown, hnm, hlk⟩, hts, hR, hb0, hK, hN, hSt, hSc⟩ := id Cc
  have hx1 := (okL_cons.mp ho.2).1.1 rfl
  exact lv_i2l (x := Int32.ofInt x) (v := Int64.ofInt x) (rest := st.map (cv b sc)) hx hb d (oI_toL hx1) (kk p l e R s m args below meth c b κ D sc Tg H locs ls Cc F hn12 hW hL ⟨ho.1, okL_cons.mpr ⟨okA_l (by dsimp only at hx1; omega), (okL_cons.mp ho.2).2⟩⟩ hS)
theorem r_l2i (d : decode k.2.1 pc = .ok (.l2i, 1)) (hz : w32 x = z) (kk : V k c1 c2 dd xs Q (pc + 1) al ((0, z) :: st) S M n1 n2) : V k c1 c2 dd xs Q pc al ((2, x) :: st) S M n1 n2 := by
  intro p l e R s m args below meth c b κ D sc Tg H locs ls Cc F hn12 hW hL ho hS
  obtain ⟨⟨hx, hb, hml, hown, hnm, hlk⟩, hts, hR, hb0, hK, hN, hSt, hSc⟩ := id Cc
  subst hz
  have hx1 := (okL_cons.mp ho.2).1.2 rfl
  exact lv_l2i (x := Int64.ofInt x) (v := Int32.ofInt (w32 x)) (rest := st.map (cv b sc)) hx hb d (oL_toI hx1) (kk p l e R s m args below meth c b κ D sc Tg H locs ls Cc F hn12 hW hL ⟨ho.1, okL_cons.mpr ⟨okA_i (w32_in _), (okL_cons.mp ho.2).2⟩⟩ hS)
theorem r_lcmp (d : decode k.2.1 pc = .ok (.lcmp, 1)) (kk : V k c1 c2 dd xs Q (pc + 1) al ((0, cmp64 x y) :: st) S M n1 n2) : V k c1 c2 dd xs Q pc al ((2, y) :: (2, x) :: st) S M n1 n2 := by
  intro p l e R s m args below meth c b κ D sc Tg H locs ls Cc F hn12 hW hL ho hS
  obtain ⟨⟨hx, hb, hml, hown, hnm, hlk⟩, hts, hR, hb0, hK, hN, hSt, hSc⟩ := id Cc
  have hy1 := (ok2 ho.2).1.2 rfl
  have hx1 := (ok2 ho.2).2.1.2 rfl
  have hc := cmp64_in x y
  refine W.lcmp (x := Int64.ofInt x) (y := Int64.ofInt y) (rest := st.map (cv b sc)) hx hb d (W.mv ?_ (kk p l e R s m args below meth c b κ D sc Tg H locs ls Cc F hn12 hW hL ⟨ho.1, okL_cons.mpr ⟨okA_i (by omega), (ok2 ho.2).2.2⟩⟩ hS))
  rw [oI_cmp hx1 hy1]; rfl
theorem r_dup {v : AV} (d : decode k.2.1 pc = .ok (.dup, 1)) (hv : v.1 ≠ 2) (kk : V k c1 c2 dd xs Q (pc + 1) al (v :: v :: st) S M n1 n2) : V k c1 c2 dd xs Q pc al (v :: st) S M n1 n2 := by
  intro p l e R s m args below meth c b κ D sc Tg H locs ls Cc F hn12 hW hL ho hS
  obtain ⟨⟨hx, hb, hml, hown, hnm, hlk⟩, hts, hR, hb0, hK, hN, hSt, hSc⟩ := id Cc
  exact lv_dup (rest := st.map (cv b sc)) hx hb d (by rw [cv_cat, if_neg hv]) (kk p l e R s m args below meth c b κ D sc Tg H locs ls Cc F hn12 hW hL ⟨ho.1, okL_cons.mpr ⟨(okL_cons.mp ho.2).1, ho.2⟩⟩ hS)
theorem r_pop {v : AV} (d : decode k.2.1 pc = .ok (.pop, 1)) (hv : v.1 ≠ 2) (kk : V k c1 c2 dd xs Q (pc + 1) al st S M n1 n2) : V k c1 c2 dd xs Q pc al (v :: st) S M n1 n2 := by
  intro p l e R s m args below meth c b κ D sc Tg H locs ls Cc F hn12 hW hL ho hS
  obtain ⟨⟨hx, hb, hml, hown, hnm, hlk⟩, hts, hR, hb0, hK, hN, hSt, hSc⟩ := id Cc
  exact lv_pop (rest := st.map (cv b sc)) hx hb d (by rw [cv_cat, if_neg hv]) (kk p l e R s m args below meth c b κ D sc Tg H locs ls Cc F hn12 hW hL ⟨ho.1, (okL_cons.mp ho.2).2⟩ hS)
theorem r_dup2 {v u : AV} (d : decode k.2.1 pc = .ok (.dup2, 1)) (hv : v.1 ≠ 2) (hu : u.1 ≠ 2) (kk : V k c1 c2 dd xs Q (pc + 1) al (v :: u :: v :: u :: st) S M n1 n2) : V k c1 c2 dd xs Q pc al (v :: u :: st) S M n1 n2 := by
  intro p l e R s m args below meth c b κ D sc Tg H locs ls Cc F hn12 hW hL ho hS
  obtain ⟨⟨hx, hb, hml, hown, hnm, hlk⟩, hts, hR, hb0, hK, hN, hSt, hSc⟩ := id Cc
  exact lv_dup2_11 (rest := st.map (cv b sc)) hx hb d (by rw [cv_cat, if_neg hv]) (by rw [cv_cat, if_neg hu]) (kk p l e R s m args below meth c b κ D sc Tg H locs ls Cc F hn12 hW hL ⟨ho.1, okL_cons.mpr ⟨(ok2 ho.2).1, okL_cons.mpr ⟨(ok2 ho.2).2.1, ho.2⟩⟩⟩ hS)
theorem r_if_eq (d : decode k.2.1 pc = .ok (.ifCond .eq off, 3)) (ht : (pc : Int) + off = (tgt : Int)) (kt : x = 0 → V k c1 c2 dd xs Q tgt al st S M n1 n2) (kf : x ≠ 0 → V k c1 c2 dd xs Q (pc + 3) al st S M n1 n2) : V k c1 c2 dd xs Q pc al ((0, x) :: st) S M n1 n2 := by
  intro p l e R s m args below meth c b κ D sc Tg H locs ls Cc F hn12 hW hL ho hS
  obtain ⟨⟨hx, hb, hml, hown, hnm, hlk⟩, hts, hR, hb0, hK, hN, hSt, hSc⟩ := id Cc
  have hx1 := (okL_cons.mp ho.2).1.1 rfl
  exact lv_if_eq (x := Int32.ofInt x) (rest := st.map (cv b sc)) hx hb d ht (fun q => kt ((oI_eq hx1 (show -2147483648 ≤ (0 : Int) ∧ (0 : Int) < 2147483648 by decide)).mp q) p l e R s m args below meth c b κ D sc Tg H locs ls Cc F hn12 hW hL ⟨ho.1, (okL_cons.mp ho.2).2⟩ hS) (fun q => kf (fun z9 => q ((oI_eq hx1 (show -2147483648 ≤ (0 : Int) ∧ (0 : Int) < 2147483648 by decide)).mpr z9)) p l e R s m args below meth c b κ D sc Tg H locs ls Cc F hn12 hW hL ⟨ho.1, (okL_cons.mp ho.2).2⟩ hS)
theorem r_icmp_eq (d : decode k.2.1 pc = .ok (.if_icmp .eq off, 3)) (ht : (pc : Int) + off = (tgt : Int)) (kt : x = y → V k c1 c2 dd xs Q tgt al st S M n1 n2) (kf : x ≠ y → V k c1 c2 dd xs Q (pc + 3) al st S M n1 n2) : V k c1 c2 dd xs Q pc al ((0, y) :: (0, x) :: st) S M n1 n2 := by
  intro p l e R s m args below meth c b κ D sc Tg H locs ls Cc F hn12 hW hL ho hS
  obtain ⟨⟨hx, hb, hml, hown, hnm, hlk⟩, hts, hR, hb0, hK, hN, hSt, hSc⟩ := id Cc
  have hy1 := (ok2 ho.2).1.1 rfl
  have hx1 := (ok2 ho.2).2.1.1 rfl
  exact lv_icmp_eq (x := Int32.ofInt x) (y := Int32.ofInt y) (rest := st.map (cv b sc)) hx hb d ht (fun q => kt ((oI_eq hx1 hy1).mp q) p l e R s m args below meth c b κ D sc Tg H locs ls Cc F hn12 hW hL ⟨ho.1, (ok2 ho.2).2.2⟩ hS) (fun q => kf (fun z9 => q ((oI_eq hx1 hy1).mpr z9)) p l e R s m args below meth c b κ D sc Tg H locs ls Cc F hn12 hW hL ⟨ho.1, (ok2 ho.2).2.2⟩ hS)
theorem r_if_ne (d : decode k.2.1 pc = .ok (.ifCond .ne off, 3)) (ht : (pc : Int) + off = (tgt : Int)) (kt : x ≠ 0 → V k c1 c2 dd xs Q tgt al st S M n1 n2) (kf : x = 0 → V k c1 c2 dd xs Q (pc + 3) al st S M n1 n2) : V k c1 c2 dd xs Q pc al ((0, x) :: st) S M n1 n2 := by
  intro p l e R s m args below meth c b κ D sc Tg H locs ls Cc F hn12 hW hL ho hS
  obtain ⟨⟨hx, hb, hml, hown, hnm, hlk⟩, hts, hR, hb0, hK, hN, hSt, hSc⟩ := id Cc
  have hx1 := (okL_cons.mp ho.2).1.1 rfl
  exact lv_if_ne (x := Int32.ofInt x) (rest := st.map (cv b sc)) hx hb d ht (fun q => kt (fun z9 => q ((oI_eq hx1 (show -2147483648 ≤ (0 : Int) ∧ (0 : Int) < 2147483648 by decide)).mpr z9)) p l e R s m args below meth c b κ D sc Tg H locs ls Cc F hn12 hW hL ⟨ho.1, (okL_cons.mp ho.2).2⟩ hS) (fun q => kf ((oI_eq hx1 (show -2147483648 ≤ (0 : Int) ∧ (0 : Int) < 2147483648 by decide)).mp q) p l e R s m args below meth c b κ D sc Tg H locs ls Cc F hn12 hW hL ⟨ho.1, (okL_cons.mp ho.2).2⟩ hS)
theorem r_icmp_ne (d : decode k.2.1 pc = .ok (.if_icmp .ne off, 3)) (ht : (pc : Int) + off = (tgt : Int)) (kt : x ≠ y → V k c1 c2 dd xs Q tgt al st S M n1 n2) (kf : x = y → V k c1 c2 dd xs Q (pc + 3) al st S M n1 n2) : V k c1 c2 dd xs Q pc al ((0, y) :: (0, x) :: st) S M n1 n2 := by
  intro p l e R s m args below meth c b κ D sc Tg H locs ls Cc F hn12 hW hL ho hS
  obtain ⟨⟨hx, hb, hml, hown, hnm, hlk⟩, hts, hR, hb0, hK, hN, hSt, hSc⟩ := id Cc
  have hy1 := (ok2 ho.2).1.1 rfl
  have hx1 := (ok2 ho.2).2.1.1 rfl
  exact lv_icmp_ne (x := Int32.ofInt x) (y := Int32.ofInt y) (rest := st.map (cv b sc)) hx hb d ht (fun q => kt (fun z9 => q ((oI_eq hx1 hy1).mpr z9)) p l e R s m args below meth c b κ D sc Tg H locs ls Cc F hn12 hW hL ⟨ho.1, (ok2 ho.2).2.2⟩ hS) (fun q => kf ((oI_eq hx1 hy1).mp q) p l e R s m args below meth c b κ D sc Tg H locs ls Cc F hn12 hW hL ⟨ho.1, (ok2 ho.2).2.2⟩ hS)
theorem r_if_lt (d : decode k.2.1 pc = .ok (.ifCond .lt off, 3)) (ht : (pc : Int) + off = (tgt : Int)) (kt : x < 0 → V k c1 c2 dd xs Q tgt al st S M n1 n2) (kf : 0 ≤ x → V k c1 c2 dd xs Q (pc + 3) al st S M n1 n2) : V k c1 c2 dd xs Q pc al ((0, x) :: st) S M n1 n2 := by
  intro p l e R s m args below meth c b κ D sc Tg H locs ls Cc F hn12 hW hL ho hS
  obtain ⟨⟨hx, hb, hml, hown, hnm, hlk⟩, hts, hR, hb0, hK, hN, hSt, hSc⟩ := id Cc
  have hx1 := (okL_cons.mp ho.2).1.1 rfl
  exact lv_if_lt (x := Int32.ofInt x) (rest := st.map (cv b sc)) hx hb d ht (fun q => kt ((oI_lt hx1 (show -2147483648 ≤ (0 : Int) ∧ (0 : Int) < 2147483648 by decide)).mp q) p l e R s m args below meth c b κ D sc Tg H locs ls Cc F hn12 hW hL ⟨ho.1, (okL_cons.mp ho.2).2⟩ hS) (fun q => kf (Int.not_lt.mp (fun z9 => q ((oI_lt hx1 (show -2147483648 ≤ (0 : Int) ∧ (0 : Int) < 2147483648 by decide)).mpr z9))) p l e R s m args below meth c b κ D sc Tg H locs ls Cc F hn12 hW hL ⟨ho.1, (okL_cons.mp ho.2).2⟩ hS)
theorem r_icmp_lt (d : decode k.2.1 pc = .ok (.if_icmp .lt off, 3)) (ht : (pc : Int) + off = (tgt : Int)) (kt : x < y → V k c1 c2 dd xs Q tgt al st S M n1 n2) (kf : y ≤ x → V k c1 c2 dd xs Q (pc + 3) al st S M n1 n2) : V k c1 c2 dd xs Q pc al ((0, y) :: (0, x) :: st) S M n1 n2 := by
  intro p l e R s m args below meth c b κ D sc Tg H locs ls Cc F hn12 hW hL ho hS
  obtain ⟨⟨hx, hb, hml, hown, hnm, hlk⟩, hts, hR, hb0, hK, hN, hSt, hSc⟩ := id Cc
  have hy1 := (ok2 ho.2).1.1 rfl
  have hx1 := (ok2 ho.2).2.1.1 rfl
  exact lv_icmp_lt (x := Int32.ofInt x) (y := Int32.ofInt y) (rest := st.map (cv b sc)) hx hb d ht (fun q => kt ((oI_lt hx1 hy1).mp q) p l e R s m args below meth c b κ D sc Tg H locs ls Cc F hn12 hW hL ⟨ho.1, (ok2 ho.2).2.2⟩ hS) (fun q => kf (Int.not_lt.mp (fun z9 => q ((oI_lt hx1 hy1).mpr z9))) p l e R s m args below meth c b κ D sc Tg H locs ls Cc F hn12 hW hL ⟨ho.1, (ok2 ho.2).2.2⟩ hS)
theorem r_if_ge (d : decode k.2.1 pc = .ok (.ifCond .ge off, 3)) (ht : (pc : Int) + off = (tgt : Int)) (kt : 0 ≤ x → V k c1 c2 dd xs Q tgt al st S M n1 n2) (kf : x < 0 → V k c1 c2 dd xs Q (pc + 3) al st S M n1 n2) : V k c1 c2 dd xs Q pc al ((0, x) :: st) S M n1 n2 := by
  intro p l e R s m args below meth c b κ D sc Tg H locs ls Cc F hn12 hW hL ho hS
  obtain ⟨⟨hx, hb, hml, hown, hnm, hlk⟩, hts, hR, hb0, hK, hN, hSt, hSc⟩ := id Cc
  have hx1 := (okL_cons.mp ho.2).1.1 rfl
  exact lv_if_ge (x := Int32.ofInt x) (rest := st.map (cv b sc)) hx hb d ht (fun q => kt ((oI_le (show -2147483648 ≤ (0 : Int) ∧ (0 : Int) < 2147483648 by decide) hx1).mp q) p l e R s m args below meth c b κ D sc Tg H locs ls Cc F hn12 hW hL ⟨ho.1, (okL_cons.mp ho.2).2⟩ hS) (fun q => kf (Int.not_le.mp (fun z9 => q ((oI_le (show -2147483648 ≤ (0 : Int) ∧ (0 : Int) < 2147483648 by decide) hx1).mpr z9))) p l e R s m args below meth c b κ D sc Tg H locs ls Cc F hn12 hW hL ⟨ho.1, (okL_cons.mp ho.2).2⟩ hS)
theorem r_icmp_ge (d : decode k.2.1 pc = .ok (.if_icmp .ge off, 3)) (ht : (pc : Int) + off = (tgt : Int)) (kt : y ≤ x → V k c1 c2 dd xs Q tgt al st S M n1 n2) (kf : x < y → V k c1 c2 dd xs Q (pc + 3) al st S M n1 n2) : V k c1 c2 dd xs Q pc al ((0, y) :: (0, x) :: st) S M n1 n2 := by
  intro p l e R s m args below meth c b κ D sc Tg H locs ls Cc F hn12 hW hL ho hS
  obtain ⟨⟨hx, hb, hml, hown, hnm, hlk⟩, hts, hR, hb0, hK, hN, hSt, hSc⟩ := id Cc
  have hy1 := (ok2 ho.2).1.1 rfl
  have hx1 := (ok2 ho.2).2.1.1 rfl
  exact lv_icmp_ge (x := Int32.ofInt x) (y := Int32.ofInt y) (rest := st.map (cv b sc)) hx hb d ht (fun q => kt ((oI_le hy1 hx1).mp q) p l e R s m args below meth c b κ D sc Tg H locs ls Cc F hn12 hW hL ⟨ho.1, (ok2 ho.2).2.2⟩ hS) (fun q => kf (Int.not_le.mp (fun z9 => q ((oI_le hy1 hx1).mpr z9))) p l e R s m args below meth c b κ D sc Tg H locs ls Cc F hn12 hW hL ⟨ho.1, (ok2 ho.2).2.2⟩ hS)
theorem r_if_gt (d : decode k.2.1 pc = .ok (.ifCond .gt off, 3)) (ht : (pc : Int) + off = (tgt : Int)) (kt : 0 < x → V k c1 c2 dd xs Q tgt al st S M n1 n2) (kf : x ≤ 0 → V k c1 c2 dd xs Q (pc + 3) al st S M n1 n2) : V k c1 c2 dd xs Q pc al ((0, x) :: st) S M n1 n2 := by
  intro p l e R s m args below meth c b κ D sc Tg H locs ls Cc F hn12 hW hL ho hS
  obtain ⟨⟨hx, hb, hml, hown, hnm, hlk⟩, hts, hR, hb0, hK, hN, hSt, hSc⟩ := id Cc
  have hx1 := (okL_cons.mp ho.2).1.1 rfl
  exact lv_if_gt (x := Int32.ofInt x) (rest := st.map (cv b sc)) hx hb d ht (fun q => kt ((oI_lt (show -2147483648 ≤ (0 : Int) ∧ (0 : Int) < 2147483648 by decide) hx1).mp q) p l e R s m args below meth c b κ D sc Tg H locs ls Cc F hn12 hW hL ⟨ho.1, (okL_cons.mp ho.2).2⟩ hS) (fun q => kf (Int.not_lt.mp (fun z9 => q ((oI_lt (show -2147483648 ≤ (0 : Int) ∧ (0 : Int) < 2147483648 by decide) hx1).mpr z9))) p l e R s m args below meth c b κ D sc Tg H locs ls Cc F hn12 hW hL ⟨ho.1, (okL_cons.mp ho.2).2⟩ hS)
theorem r_icmp_gt (d : decode k.2.1 pc = .ok (.if_icmp .gt off, 3)) (ht : (pc : Int) + off = (tgt : Int)) (kt : y < x → V k c1 c2 dd xs Q tgt al st S M n1 n2) (kf : x ≤ y → V k c1 c2 dd xs Q (pc + 3) al st S M n1 n2) : V k c1 c2 dd xs Q pc al ((0, y) :: (0, x) :: st) S M n1 n2 := by
  intro p l e R s m args below meth c b κ D sc Tg H locs ls Cc F hn12 hW hL ho hS
  obtain ⟨⟨hx, hb, hml, hown, hnm, hlk⟩, hts, hR, hb0, hK, hN, hSt, hSc⟩ := id Cc
  have hy1 := (ok2 ho.2).1.1 rfl
  have hx1 := (ok2 ho.2).2.1.1 rfl
  exact lv_icmp_gt (x := Int32.ofInt x) (y := Int32.ofInt y) (rest := st.map (cv b sc)) hx hb d ht (fun q => kt ((oI_lt hy1 hx1).mp q) p l e R s m args below meth c b κ D sc Tg H locs ls Cc F hn12 hW hL ⟨ho.1, (ok2 ho.2).2.2⟩ hS) (fun q => kf (Int.not_lt.mp (fun z9 => q ((oI_lt hy1 hx1).mpr z9))) p l e R s m args below meth c b κ D sc Tg H locs ls Cc F hn12 hW hL ⟨ho.1, (ok2 ho.2).2.2⟩ hS)
theorem r_if_le (d : decode k.2.1 pc = .ok (.ifCond .le off, 3)) (ht : (pc : Int) + off = (tgt : Int)) (kt : x ≤ 0 → V k c1 c2 dd xs Q tgt al st S M n1 n2) (kf : 0 < x → V k c1 c2 dd xs Q (pc + 3) al st S M n1 n2) : V k c1 c2 dd xs Q pc al ((0, x) :: st) S M n1 n2 := by
  intro p l e R s m args below meth c b κ D sc Tg H locs ls Cc F hn12 hW hL ho hS
  obtain ⟨⟨hx, hb, hml, hown, hnm, hlk⟩, hts, hR, hb0, hK, hN, hSt, hSc⟩ := id Cc
  have hx1 := (okL_cons.mp ho.2).1.1 rfl
  exact lv_if_le (x := Int32.ofInt x) (rest := st.map (cv b sc)) hx hb d ht (fun q => kt ((oI_le hx1 (show -2147483648 ≤ (0 : Int) ∧ (0 : Int) < 2147483648 by decide)).mp q) p l e R s m args below meth c b κ D sc Tg H locs ls Cc F hn12 hW hL ⟨ho.1, (okL_cons.mp ho.2).2⟩ hS) (fun q => kf (Int.not_le.mp (fun z9 => q ((oI_le hx1 (show -2147483648 ≤ (0 : Int) ∧ (0 : Int) < 2147483648 by decide)).mpr z9))) p l e R s m args below meth c b κ D sc Tg H locs ls Cc F hn12 hW hL ⟨ho.1, (okL_cons.mp ho.2).2⟩ hS)
theorem r_icmp_le (d : decode k.2.1 pc = .ok (.if_icmp .le off, 3)) (ht : (pc : Int) + off = (tgt : Int)) (kt : x ≤ y → V k c1 c2 dd xs Q tgt al st S M n1 n2) (kf : y < x → V k c1 c2 dd xs Q (pc + 3) al st S M n1 n2) : V k c1 c2 dd xs Q pc al ((0, y) :: (0, x) :: st) S M n1 n2 := by
  intro p l e R s m args below meth c b κ D sc Tg H locs ls Cc F hn12 hW hL ho hS
  obtain ⟨⟨hx, hb, hml, hown, hnm, hlk⟩, hts, hR, hb0, hK, hN, hSt, hSc⟩ := id Cc
  have hy1 := (ok2 ho.2).1.1 rfl
  have hx1 := (ok2 ho.2).2.1.1 rfl
  exact lv_icmp_le (x := Int32.ofInt x) (y := Int32.ofInt y) (rest := st.map (cv b sc)) hx hb d ht (fun q => kt ((oI_le hx1 hy1).mp q) p l e R s m args below meth c b κ D sc Tg H locs ls Cc F hn12 hW hL ⟨ho.1, (ok2 ho.2).2.2⟩ hS) (fun q => kf (Int.not_le.mp (fun z9 => q ((oI_le hx1 hy1).mpr z9))) p l e R s m args below meth c b κ D sc Tg H locs ls Cc F hn12 hW hL ⟨ho.1, (ok2 ho.2).2.2⟩ hS)
theorem r_tabIn {dflt lo hi : Int} {offs : Array Int} {len : Nat} (d : decode k.2.1 pc = .ok (.tableswitch dflt lo hi offs, len)) (h1 : lo ≤ x) (h2 : x ≤ hi) (hof : offs[(x - lo).toNat]? = some off) (ht : (pc : Int) + off = (tgt : Int)) (kk : V k c1 c2 dd xs Q tgt al st S M n1 n2) : V k c1 c2 dd xs Q pc al ((0, x) :: st) S M n1 n2 := by
  intro p l e R s m args below meth c b κ D sc Tg H locs ls Cc F hn12 hW hL ho hS
  obtain ⟨⟨hx, hb, hml, hown, hnm, hlk⟩, hts, hR, hb0, hK, hN, hSt, hSc⟩ := id Cc
  have hx1 := (okL_cons.mp ho.2).1.1 rfl
  have e1 : (Int32.ofInt x).toInt = x := by rw [oI_t]; exact w32_id hx1
  exact lv_tableIn (x := Int32.ofInt x) (rest := st.map (cv b sc)) hx hb d (by rw [e1]; omega) (by rw [e1]; omega) (by rw [e1]; exact hof) ht (kk p l e R s m args below meth c b κ D sc Tg H locs ls Cc F hn12 hW hL ⟨ho.1, (okL_cons.mp ho.2).2⟩ hS)
theorem r_tabOut {dflt lo hi : Int} {offs : Array Int} {len : Nat} (d : decode k.2.1 pc = .ok (.tableswitch dflt lo hi offs, len)) (h1 : x < lo ∨ hi < x) (ht : (pc : Int) + dflt = (tgt : Int)) (kk : V k c1 c2 dd xs Q tgt al st S M n1 n2) : V k c1 c2 dd xs Q pc al ((0, x) :: st) S M n1 n2 := by
  intro p l e R s m args below meth c b κ D sc Tg H locs ls Cc F hn12 hW hL ho hS
  obtain ⟨⟨hx, hb, hml, hown, hnm, hlk⟩, hts, hR, hb0, hK, hN, hSt, hSc⟩ := id Cc
  have hx1 := (okL_cons.mp ho.2).1.1 rfl
  have e1 : (Int32.ofInt x).toInt = x := by rw [oI_t]; exact w32_id hx1
  exact lv_tableOut (x := Int32.ofInt x) (rest := st.map (cv b sc)) hx hb d (by rw [e1]; exact h1) ht (kk p l e R s m args below meth c b κ D sc Tg H locs ls Cc F hn12 hW hL ⟨ho.1, (okL_cons.mp ho.2).2⟩ hS)
theorem r_look {dflt : Int} {ps : Array (Int × Int)} {len : Nat} (d : decode k.2.1 pc = .ok (.lookupswitch dflt ps, len)) (hp : (ps.toList.zip (ps.toList.drop 1)).all (fun (a, next) => a.1 < next.1) = true) (hof : Op.lookupswitch.offset ps.toList dflt x = off) (ht : (pc : Int) + off = (tgt : Int)) (kk : V k c1 c2 dd xs Q tgt al st S M n1 n2) : V k c1 c2 dd xs Q pc al ((0, x) :: st) S M n1 n2 := by
  intro p l e R s m args below meth c b κ D sc Tg H locs ls Cc F hn12 hW hL ho hS
  obtain ⟨⟨hx, hb, hml, hown, hnm, hlk⟩, hts, hR, hb0, hK, hN, hSt, hSc⟩ := id Cc
  have hx1 := (okL_cons.mp ho.2).1.1 rfl
  have e1 : (Int32.ofInt x).toInt = x := by rw [oI_t]; exact w32_id hx1
  exact lv_lookup (x := Int32.ofInt x) (rest := st.map (cv b sc)) hx hb d hp (by rw [e1]; exact hof) ht (kk p l e R s m args below meth c b κ D sc Tg H locs ls Cc F hn12 hW hL ⟨ho.1, (okL_cons.mp ho.2).2⟩ hS)
theorem r_ret0 (d : decode k.2.1 pc = .ok (retI k.2.2.2, 1)) (hk : k.2.2.2 = none) (hq : Q none S M) : V k c1 c2 dd xs Q pc al [] S M n1 n2 := by
  intro p l e R s m args below meth c b κ D sc Tg H locs ls Cc F hn12 hW hL ho hS
  obtain ⟨⟨hx, hb, hml, hown, hnm, hlk⟩, hts, hR, hb0, hK, hN, hSt, hSc⟩ := id Cc
  exact F none S M H locs n1 n2 ls pc hn12.1 hn12.2 hq hW hS (by rw [hk]; rfl) d
theorem r_ret {v : AV} (d : decode k.2.1 pc = .ok (retI k.2.2.2, 1)) (hk : okR k.2.2.2 (some v)) (hq : Q (some v) S M) : V k c1 c2 dd xs Q pc al [v] S M n1 n2 := by
  intro p l e R s m args below meth c b κ D sc Tg H locs ls Cc F hn12 hW hL ho hS
  obtain ⟨⟨hx, hb, hml, hown, hnm, hlk⟩, hts, hR, hb0, hK, hN, hSt, hSc⟩ := id Cc
  exact F (some v) S M H locs n1 n2 ls pc hn12.1 hn12.2 hq hW hS hk d
theorem r_iret (d : decode k.2.1 pc = .ok (.ireturn, 1)) (hk : k.2.2.2 = some .int) (hq : Q (some (0, x)) S M) : V k c1 c2 dd xs Q pc al [(0, x)] S M n1 n2 := by
  intro p l e R s m args below meth c b κ D sc Tg H locs ls Cc F hn12 hW hL ho hS
  obtain ⟨⟨hx, hb, hml, hown, hnm, hlk⟩, hts, hR, hb0, hK, hN, hSt, hSc⟩ := id Cc
  exact F (some (0, x)) S M H locs n1 n2 ls pc hn12.1 hn12.2 hq hW hS (by rw [hk]; exact ⟨x, rfl, (okL_cons.mp ho.2).1.1 rfl⟩) (by rw [hk]; exact d)
theorem r_zret (d : decode k.2.1 pc = .ok (.ireturn, 1)) (hk : k.2.2.2 = some .boolean) (h01 : 0 ≤ x ∧ x ≤ 1) (hq : Q (some (0, x)) S M) : V k c1 c2 dd xs Q pc al [(0, x)] S M n1 n2 := by
  intro p l e R s m args below meth c b κ D sc Tg H locs ls Cc F hn12 hW hL ho hS
  obtain ⟨⟨hx, hb, hml, hown, hnm, hlk⟩, hts, hR, hb0, hK, hN, hSt, hSc⟩ := id Cc
  exact F (some (0, x)) S M H locs n1 n2 ls pc hn12.1 hn12.2 hq hW hS (by rw [hk]; exact ⟨x, rfl, h01⟩) (by rw [hk]; exact d)
theorem r_lret (d : decode k.2.1 pc = .ok (.lreturn, 1)) (hk : k.2.2.2 = some .long) (hq : Q (some (2, x)) S M) : V k c1 c2 dd xs Q pc al [(2, x)] S M n1 n2 := by
  intro p l e R s m args below meth c b κ D sc Tg H locs ls Cc F hn12 hW hL ho hS
  obtain ⟨⟨hx, hb, hml, hown, hnm, hlk⟩, hts, hR, hb0, hK, hN, hSt, hSc⟩ := id Cc
  exact F (some (2, x)) S M H locs n1 n2 ls pc hn12.1 hn12.2 hq hW hS (by rw [hk]; exact ⟨x, rfl, (okL_cons.mp ho.2).1.2 rfl⟩) (by rw [hk]; exact d)
end RUL
