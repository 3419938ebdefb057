/-- what the tables say of the classes and the rows -/
theorem kk_s {s : State} {args : Array Value} (hts : ∀ w ∈ lw_tbl, w.before args s = true) : ∃ (κ : Nat → ClassId) (D : va_G), KK κ D s := by
  have hg : ∀ w, w ∈ gw → w.before args s = true := fun w hw => hts w (List.mem_filter.mp hw).1
  have w8 : (Cond.arrayOver (.object RX8)).before args s = true := hts _ (by decide +kernel)
  have w3 : (Cond.arrayOver (.object RX3)).before args s = true := hts _ (by decide +kernel)
  have wi : (Cond.arrayOver (.array .int)).before #[] s = true := hts (Cond.arrayOver (.array .int)) (by decide +kernel)
  have h1 : ∀ c : Nat, ∃ z : ClassId × (Nat → Nat), ∀ q : vw_C, vwCl[c]? = some q → u_Kn s q.1 q.2.1 q.2.2 z.1 z.2 := by
    intro c
    have inst : ∀ q : vw_C, vwCl[c]? = some q → ∃ n : Nat, Cond.instantiable q.1 n ∈ gw := by
      intro q hq
      match c, hq with
      | 0, hq => cases hq; exact ⟨_, inX0⟩
      | 1, hq => cases hq; exact ⟨_, inX1⟩
      | 2, hq => cases hq; exact ⟨_, inX2⟩
      | 3, hq => cases hq; exact ⟨_, inX3⟩
      | 4, hq => cases hq; exact ⟨_, inX4⟩
      | 5, hq => cases hq; exact ⟨_, inX5⟩
      | 6, hq => cases hq; exact ⟨_, inX6⟩
      | 7, hq => cases hq; exact ⟨_, inX7⟩
      | 8, hq => cases hq; exact ⟨_, inX8⟩
      | 9, hq => cases hq; exact ⟨_, inX9⟩
      | 10, hq => cases hq; exact ⟨_, inX10⟩
      | 11, hq => cases hq; exact ⟨_, inX11⟩
      | c + 12, hq => have := cl_lt hq; omega
    cases hq : vwCl[c]? with
    | none => exact ⟨(0, fun _ => 0), fun q h => by cases h⟩
    | some q =>
      obtain ⟨n, hn⟩ := inst q hq
      obtain ⟨cC, iS, k⟩ := u_known (ws := gw) hg (cl_ws c q.1 q.2.1 q.2.2 hq) (hg _ hn)
      exact ⟨(cC, iS), fun q9 h => by cases h; exact k⟩
  have prim : ∀ ty : FieldType, Cond.arrayClass ty ∈ gw → ∃ c k comp, s.vm.findClass ("[" ++ ty.toString) = some c ∧ s.vm.classes[c]? = some k ∧ k.kind = .array comp ty := fun ty h => Cond.arrayClass_spec (hg _ h)
  have h2 : ∀ t : Nat, ∃ cA : ClassId, 20 ≤ t → t < 26 → ArrOfT s cA (tyT t) ∧ va_RA s cA (tyT t) := by
    intro t
    by_cases q : 20 ≤ t ∧ t < 26
    · rcases (show t = 20 ∨ t = 21 ∨ t = 22 ∨ t = 23 ∨ t = 24 ∨ t = 25 by omega) with e | e | e | e | e | e <;> subst e
      · obtain ⟨c, k, comp, g1, g2, g3⟩ := prim .int ac_int
        exact ⟨c, fun _ _ => ⟨fun n z => ⟨fun k h => (by cases h), k, g2, comp, g3⟩, g1⟩⟩
      · obtain ⟨c, k, comp, g1, g2, g3⟩ := prim .boolean ac_boolean
        exact ⟨c, fun _ _ => ⟨fun n z => ⟨fun k h => (by cases h), k, g2, comp, g3⟩, g1⟩⟩
      · obtain ⟨c, k, comp, g1, g2, g3⟩ := prim .long ac_long
        exact ⟨c, fun _ _ => ⟨fun n z => ⟨fun k h => (by cases h), k, g2, comp, g3⟩, g1⟩⟩
      · obtain ⟨comp, c, k, g1, -, g3, g4, g5⟩ := Cond.arrayOver_spec w8
        exact ⟨c, fun _ _ => ⟨fun n z => ⟨fun k h => (by cases h), k, g3, comp, g4⟩, k, comp, g3, g4, g1, g5⟩⟩
      · obtain ⟨comp, c, k, g1, -, g3, g4, g5⟩ := Cond.arrayOver_spec w3
        exact ⟨c, fun _ _ => ⟨fun n z => ⟨fun k h => (by cases h), k, g3, comp, g4⟩, k, comp, g3, g4, g1, g5⟩⟩
      · obtain ⟨comp, c, k, g1, -, g3, g4, g5⟩ := AOA_spec wi
        exact ⟨c, fun _ _ => ⟨fun n z => ⟨fun k h => (by cases h), k, g3, comp, g4⟩, g5⟩⟩
    · exact ⟨0, fun a b => absurd ⟨a, b⟩ q⟩
  obtain ⟨g, hgc⟩ := Classical.axiomOfChoice h1
  obtain ⟨f, hf⟩ := Classical.axiomOfChoice h2
  exact ⟨f, (fun c => (g c).1, fun c => (g c).2), fun c q hq => hgc c q hq, hf, va_AO.of w8, va_AO.of w3, wi⟩
theorem nw_s {s : State} {args : Array Value} (hts : ∀ w ∈ lw_tbl, w.before args s = true) : NW s := by
  intro w hw ⟨a, i, x, g, e⟩
  subst e
  exact va_Nw.of rfl (hts _ hw)
abbrev WDS : Term := Term.string RX4 146
abbrev WDV : Term := .field WDS "java/lang/String" "value" "[B"
theorem wds_at : ∀ j : Nat, j < 150 → (flatC (Cond.and given_1 narrow_1))[37 + j]? = some (Cond.eq (.elem WDV (.int (Int32.ofNat j))) (.int (bWORDS.getD j 0))) := by decide +kernel
theorem w1_g {a : List Int32} : ([a] : List (List Int32)).getD 0 [] = a := rfl
theorem w1_b : ([bWORDS] : List (List Int32)).getD 0 [] = bWORDS := w1_g
/-- the text WORDS, and what the JDK keeps -/
theorem st_s {s : State} {args : Array Value} (hts : ∀ w ∈ lw_tbl, w.before args s = true) (hgv : (Cond.and given_1 narrow_1).before args s = true) : ∃ a1 a2 : Nat, ∀ sc : Nat → Nat, sc 1 = a1 → sc 2 = a2 → StF sc (fun q => s.heap.size ≤ q) s s.heap := by
  have hs := flat_of_before _ hgv
  have hA : ∀ a : Nat, a < s.heap.size → ¬ (fun q : Nat => s.heap.size ≤ q) a := fun a h => Nat.not_le.mpr h
  have z : ∀ i : Nat, i < 1 → i = 0 := fun i h => by omega
  have el : ∀ j : Nat, j < 150 → (Cond.eq (.elem WDV (.int (Int32.ofNat j))) (.int (bWORDS.getD j 0))).before args s = true := fun j hj => hs _ (List.mem_of_getElem? (i := 37 + j) (wds_at j hj))
  obtain ⟨adK, adV, hS, hE⟩ := vk_Sof (args := args) (s := s) (N := 1) (tm := fun _ => WDS) (len := [150]) (byt := [bWORDS]) (A := fun q => s.heap.size ≤ q) (fun i hi => by rw [z i hi]; decide) (fun i hi => hs (Cond.exactly WDS "java/lang/String") (by decide +kernel)) (fun i hi => hs (Cond.eq (.field WDS "java/lang/String" "coder" "B") (.int 0)) (by decide +kernel)) (fun i hi => hs (Cond.arrayOf WDV .byte) (by decide +kernel)) (fun i hi => by rw [z i hi]; exact hs (Cond.eq (.length WDV) (.int (Int32.ofNat 150))) (by decide +kernel)) (fun i hi j hj => by
      rw [z i hi] at hj ⊢
      rw [show ([150] : List Nat).getD 0 0 = 150 by decide] at hj
      rw [w1_b]
      exact el j hj) (fun i j hi hj h => absurd ((z i hi).trans (z j hj).symm) h) hA
  have cs := hs (Cond.eq (.static "java/lang/String" "COMPACT_STRINGS" "Z") (.int 1)) (by decide +kernel)
  have sf := hs (Cond.isRef (.static "jdk/internal/util/Preconditions" "SIOOBE_FORMATTER" "Ljava/util/function/BiFunction;")) (by decide +kernel)
  have r1 := hts (Cond.stringRef RX4 146 tWORDS) (by decide +kernel)
  have l1 := hts (Cond.laysStatic "java/lang/String" "COMPACT_STRINGS" "Z") (by decide +kernel)
  have l2 := hts (Cond.laysStatic "jdk/internal/util/Preconditions" "SIOOBE_FORMATTER" "Ljava/util/function/BiFunction;") (by decide +kernel)
  have i1 := hts (Cond.initialized "java/lang/String") (by decide +kernel)
  have i2 := hts (Cond.initialized "jdk/internal/util/Preconditions") (by decide +kernel)
  refine ⟨adK 0, adV 0, fun sc e1 e2 => ?_⟩
  unfold StF
  rw [e1, e2]
  refine ⟨vk_R.of r1 (hE 0 (by decide)), ⟨fun i hi => ?_, fun i j hi hj _ => (z i hi).trans (z j hj).symm⟩, va_Zof l1 i1 (va_eqi cs) hA, va_Zqof l2 i2 sf hA⟩
  rw [z i hi]
  exact hS.1 0 (by decide)
