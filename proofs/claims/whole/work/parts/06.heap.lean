/-! fields and elements -/
/-- what a field's place asks: own class, entry, the class and the place of the field -/
def FL (own : String) (index ci j : Nat) : Prop := ∃ (C : String) (T : u_T) (N : Nat), vwCl[ci]? = some (C, T, N) ∧ j < N ∧ Cond.fieldLink own index C (T j).2.1 (T j).2.2.1 ∈ gw ∧ (T j).1 = C
theorem cl_ws : ∀ (ci : Nat) (C : String) (T : u_T) (N : Nat), vwCl[ci]? = some (C, T, N) → ∀ w ∈ u_ws C T N, w ∈ gw := by
  have h : ∀ q ∈ vwCl, ∀ w ∈ u_ws q.1 q.2.1 q.2.2, w ∈ gw := by decide +kernel
  intro ci C T N hc
  exact h _ (List.mem_of_getElem? hc)
def tyX (ci : Nat) : Nat → FieldType := if ci = 0 then tyX0 else if ci = 1 then tyX1 else if ci = 2 then tyX2 else if ci = 3 then tyX3 else if ci = 4 then tyX4 else if ci = 5 then tyX5 else if ci = 6 then tyX6 else if ci = 7 then tyX7 else if ci = 8 then tyX8 else if ci = 9 then tyX9 else if ci = 10 then tyX10 else tyX11
theorem cl_ty : ∀ (ci : Nat) (C : String) (T : u_T) (N : Nat), vwCl[ci]? = some (C, T, N) → ∀ k, k < N → parseFieldDescriptor (T k).2.2.1 = some (tyX ci k) := by
  intro ci C T N hc
  match ci, hc with
  | 0, hc => cases hc; exact tyX0_ok
  | 1, hc => cases hc; exact tyX1_ok
  | 2, hc => cases hc; exact tyX2_ok
  | 3, hc => cases hc; exact tyX3_ok
  | 4, hc => cases hc; exact tyX4_ok
  | 5, hc => cases hc; exact tyX5_ok
  | 6, hc => cases hc; exact tyX6_ok
  | 7, hc => cases hc; exact tyX7_ok
  | 8, hc => cases hc; exact tyX8_ok
  | 9, hc => cases hc; exact tyX9_ok
  | 10, hc => cases hc; exact tyX10_ok
  | 11, hc => cases hc; exact tyX11_ok
  | ci + 12, hc => cases hc
theorem cl_nm : ∀ (ci : Nat) (C : String) (T : u_T) (N : Nat), vwCl[ci]? = some (C, T, N) → ∀ a, a < N → ∀ b, b < N → a ≠ b → (T a).2.1 ≠ (T b).2.1 := by
  intro ci C T N hc
  match ci, hc with
  | 0, hc => cases hc; exact nmX0
  | 1, hc => cases hc; exact nmX1
  | 2, hc => cases hc; exact nmX2
  | 3, hc => cases hc; exact nmX3
  | 4, hc => cases hc; exact nmX4
  | 5, hc => cases hc; exact nmX5
  | 6, hc => cases hc; exact nmX6
  | 7, hc => cases hc; exact nmX7
  | 8, hc => cases hc; exact nmX8
  | 9, hc => cases hc; exact nmX9
  | 10, hc => cases hc; exact nmX10
  | 11, hc => cases hc; exact nmX11
  | ci + 12, hc => cases hc
/-- the storage is what the type says -/
def tgOf : FieldType → Nat
  | .int => 0
  | .boolean => 5
  | .long => 2
  | .object _ => 1
  | .array _ => 1
  | _ => 7
theorem cl_tag : ∀ (ci : Nat) (C : String) (T : u_T) (N : Nat), vwCl[ci]? = some (C, T, N) → ∀ j, j < N → fT ci j = tgOf (tyX ci j) := by
  have h : ∀ ci, ci < 12 → ∀ j, j < ((vwCl[ci]?).map (fun q => q.2.2)).getD 0 → fT ci j = tgOf (tyX ci j) := by decide +kernel
  intro ci C T N hc j hj
  have h12 : ci < 12 := (List.getElem?_eq_some_iff.mp hc).1
  exact h ci h12 j (by rw [hc]; exact hj)
theorem cl_lt {ci : Nat} {q : vw_C} (h : vwCl[ci]? = some q) : ci < 12 := (List.getElem?_eq_some_iff.mp h).1
/-- the fields of a cell of the shape, as values -/
def flds (b : Nat) (q : Nat × Nat × List Int) (f : Int → Int) : List Value := (List.range q.2.1).map (fun j : Nat => cf b (fT q.1 j) (f j) (q.2.2.getD j (-1)))
theorem ent_o {b : Nat} {κ : Nat → ClassId} {q : Nat × Nat × List Int} {f : Int → Int} (h : q.1 < 12) : ent b κ q f = .inr (q.1, flds b q f) := by unfold ent flds; rw [if_pos h]
theorem flds_at {b : Nat} {q : Nat × Nat × List Int} {f : Int → Int} {j : Nat} (h : j < q.2.1) : (flds b q f)[j]? = some (cf b (fT q.1 j) (f j) (q.2.2.getD j (-1))) := by
  unfold flds; rw [List.getElem?_map, List.getElem?_range h]; rfl
theorem flds_len {b : Nat} {q : Nat × Nat × List Int} {f : Int → Int} : (flds b q f).length = q.2.1 := by unfold flds; simp
section HEAP
variable {k : MI} {c1 c2 dd : Nat} {xs : Option (List Int)} {Q : Option AV → Sh → Me → Prop} {pc tgt i index ci j : Nat} {al al' st : List AV} {S S' : Sh} {M M' : Me} {n1 n2 : Nat} {a x y z r : Int} {off : Int} {n t : Nat} {rs : List Int}
/-- a field of a cell: any -/
theorem getf0 (d : decode k.2.1 pc = .ok (.getfield index, 3)) (fl : FL k.1.cls index ci j) (hS : S[a.toNat]? = some (ci, n, rs)) (hj : j < n) (ha : 0 ≤ a) {v : AV} (hcv : ∀ (b : Nat) (sc : Nat → Nat), cv b sc v = cf b (fT ci j) (M a j) (rs.getD j (-1))) (hok : okv (fT ci j) (M a j) → okA v)
    (kk : V k c1 c2 dd xs Q (pc + 3) al (v :: st) S M n1 n2) : V k c1 c2 dd xs Q pc al ((1, a) :: st) S M n1 n2 := by
  intro p l e R s m args below meth c b κ D sc Tg H locs ls Cc F hn12 hW hL ho hS9
  obtain ⟨⟨hx, hb, hml, hown, hnm, hlk⟩, hts, hR, hb0, hK, hN, hSt, hSc⟩ := id Cc
  obtain ⟨C, T, N, f1, f2, f3, f4⟩ := fl
  have h12 := cl_lt f1
  have he := toW_at (b := b) (κ := κ) (M := M) hS
  rw [ent_o h12] at he
  rw [Int.toNat_of_nonneg ha] at he
  have hv : okA v := by
    have := Wd_okv hW hS ha (Int.natCast_nonneg j) (by show (j : Int) < (n : Int); omega)
    unfold elT at this
    rw [if_pos h12, Int.toNat_natCast] at this
    exact hok this
  rw [List.map_cons, cv_ref ha]
  refine va_get (D := D) (ci := ci) (C := C) (T := T) (N := N) (ref := C) hx hb hts (cl_ws _ _ _ _ f1) hown hK.K0 hW.1 a.toNat he f1 j f2 (hts _ f3) (fun x h => by rw [f4] at h; exact h) (flds_at hj) d ?_
  rw [← hcv b sc]
  exact kk p l e R s m args below meth c b κ D sc Tg H locs ls Cc F hn12 hW hL ⟨ho.1, okL_cons.mpr ⟨hv, (okL_cons.mp ho.2).2⟩⟩ hS9
theorem r_geti (d : decode k.2.1 pc = .ok (.getfield index, 3)) (fl : FL k.1.cls index ci j) (hS : S[a.toNat]? = some (ci, n, rs)) (hj : j < n) (ha : 0 ≤ a) (ht : fT ci j = 0) (hx : M a j = x) (kk : V k c1 c2 dd xs Q (pc + 3) al ((0, x) :: st) S M n1 n2) : V k c1 c2 dd xs Q pc al ((1, a) :: st) S M n1 n2 := by
  subst hx
  exact getf0 d fl hS hj ha (fun b sc => by rw [ht]; rfl) (fun h => okA_i (h.1 ht)) kk
theorem r_getz (d : decode k.2.1 pc = .ok (.getfield index, 3)) (fl : FL k.1.cls index ci j) (hS : S[a.toNat]? = some (ci, n, rs)) (hj : j < n) (ha : 0 ≤ a) (ht : fT ci j = 5) (hx : M a j = x) (kk : V k c1 c2 dd xs Q (pc + 3) al ((0, x) :: st) S M n1 n2) : V k c1 c2 dd xs Q pc al ((1, a) :: st) S M n1 n2 := by
  subst hx
  exact getf0 d fl hS hj ha (fun b sc => by rw [ht]; rfl) (fun h => okA_i (by have := h.2.1 ht; omega)) kk
theorem r_getl (d : decode k.2.1 pc = .ok (.getfield index, 3)) (fl : FL k.1.cls index ci j) (hS : S[a.toNat]? = some (ci, n, rs)) (hj : j < n) (ha : 0 ≤ a) (ht : fT ci j = 2) (hx : M a j = x) (kk : V k c1 c2 dd xs Q (pc + 3) al ((2, x) :: st) S M n1 n2) : V k c1 c2 dd xs Q pc al ((1, a) :: st) S M n1 n2 := by
  subst hx
  exact getf0 d fl hS hj ha (fun b sc => by rw [ht]; rfl) (fun h => okA_l (h.2.2 ht)) kk
theorem r_getr (d : decode k.2.1 pc = .ok (.getfield index, 3)) (fl : FL k.1.cls index ci j) (hS : S[a.toNat]? = some (ci, n, rs)) (hj : j < n) (ha : 0 ≤ a) (ht : fT ci j = 1) (hx : rs.getD j (-1) = x) (kk : V k c1 c2 dd xs Q (pc + 3) al ((1, x) :: st) S M n1 n2) : V k c1 c2 dd xs Q pc al ((1, a) :: st) S M n1 n2 := by
  subst hx
  exact getf0 d fl hS hj ha (fun b sc => by rw [ht]; rfl) (fun _ => okA_r) kk
/-! a field is put -/
theorem flds_up {b : Nat} {q : Nat × Nat × List Int} {M : Me} {a v : Int} {j : Nat} (ht : fT q.1 j ≠ 1) : flds b q (up M a j v a) = (flds b q (M a)).set j (cf b (fT q.1 j) v 0) := by
  apply List.ext_getElem?
  intro i
  by_cases hi : i < q.2.1
  · rw [flds_at hi]
    by_cases h : i = j
    · subst h
      rw [List.getElem?_set_self (by rw [flds_len]; exact hi)]
      have e : up M a (i : Int) v a (i : Int) = v := by unfold up; rw [if_pos ⟨rfl, rfl⟩]
      rw [e]
      unfold cf
      rw [if_neg ht, if_neg ht]
    · rw [List.getElem?_set_ne (Ne.symm h), flds_at hi]
      unfold up
      rw [if_neg (by rintro ⟨-, q⟩; apply h; omega)]
  · rw [List.getElem?_eq_none (by rw [flds_len]; omega), List.getElem?_eq_none (by rw [List.length_set, flds_len]; omega)]
theorem flds_rs {b : Nat} {q : Nat × Nat × List Int} {f : Int → Int} {r : Int} {j : Nat} (ht : fT q.1 j = 1) (hl : j < q.2.2.length) : flds b (q.1, q.2.1, q.2.2.set j r) f = (flds b q f).set j (va_rf (rfo b r)) := by
  apply List.ext_getElem?
  intro i
  by_cases hi : i < q.2.1
  · rw [flds_at (q := (q.1, q.2.1, q.2.2.set j r)) hi]
    by_cases h : i = j
    · subst h
      rw [List.getElem?_set_self (by rw [flds_len]; exact hi)]
      dsimp only
      unfold cf
      rw [if_pos ht, List.getD_eq_getElem?_getD, List.getElem?_set_self hl]; rfl
    · rw [List.getElem?_set_ne (Ne.symm h), flds_at hi]
      dsimp only
      rw [List.getD_eq_getElem?_getD, List.getElem?_set_ne (Ne.symm h), ← List.getD_eq_getElem?_getD]
  · rw [List.getElem?_eq_none (by rw [flds_len]; exact Nat.not_lt.mp hi), List.getElem?_eq_none (by rw [List.length_set, flds_len]; omega)]
theorem Wd_up {b : Nat} {κ : Nat → ClassId} {D : va_G} {H H1 : Heap} {q : Nat × Nat × List Int} {v : Int} {jj : Int} (hW : Wd b κ D S M H) (ha : 0 ≤ a) (hS : S[a.toNat]? = some q) (hj0 : 0 ≤ jj) (hv : okv (elT q.1 jj.toNat) v) (hP : va_P D vwCl ((toW b κ S M).set a.toNat (b + a.toNat, ent b κ q (up M a jj v a))) H1) (hz : H1.size = H.size) : Wd b κ D S (up M a jj v) H1 := by
  refine ⟨by rw [toW_up ha hS]; exact hP, by rw [hz]; exact hW.2.1, fun i q' hi j hj => ?_⟩
  unfold up
  by_cases h : (i : Int) = a ∧ (j : Int) = jj
  · rw [if_pos h]
    have h1 : i = a.toNat := by omega
    subst h1
    rw [hS] at hi
    cases hi
    rw [show j = jj.toNat by omega]
    exact hv
  · rw [if_neg h]
    exact hW.2.2 i q' hi j hj
theorem Wd_setR {b : Nat} {κ : Nat → ClassId} {D : va_G} {H H1 : Heap} {q : Nat × Nat × List Int} {r : Int} {a j : Nat} (hW : Wd b κ D S M H) (hS : S[a]? = some q) (hP : va_P D vwCl ((toW b κ S M).set a (b + a, ent b κ (q.1, q.2.1, q.2.2.set j r) (M a))) H1) (hz : H1.size = H.size) : Wd b κ D (setR S a j r) M H1 := by
  refine ⟨by rw [toW_setR hS]; exact hP, by rw [hz, hW.2.1]; unfold setR; rw [List.length_modify], fun i q' hi j' hj => ?_⟩
  unfold setR at hi
  rw [List.getElem?_modify] at hi
  cases hq : S[i]? with
  | none => rw [hq] at hi; cases hi
  | some q0 =>
    rw [hq] at hi
    have hi : (if a = i then (q0.1, q0.2.1, q0.2.2.set j r) else q0) = q' := Option.some.inj hi
    by_cases h : a = i
    · rw [if_pos h] at hi
      subst hi
      exact hW.2.2 i q0 hq j' hj
    · rw [if_neg h] at hi
      subst hi
      exact hW.2.2 i q0 hq j' hj
end HEAP
