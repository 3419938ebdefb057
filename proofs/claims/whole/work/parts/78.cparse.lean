abbrev RF : Type := Int → Int → Int → Me → RV
/-- a row of parts with signs between: c turns at most -/
def lpC (n : Nat) (x : Int) (g : Me → RV) (p q : Int) : Nat → RV → RV
  | 0, s => s
  | c + 1, s => if s.1 ≠ 0 ∧ (s.2 2 7 = p ∨ s.2 2 7 = q) then lpC n x g p q c ((g (goC s.2 n)).1, adC (g (goC s.2 n)).2 x (s.2 2 7) 0) else s
theorem lpC_t {n : Nat} {x : Int} {g : Me → RV} {p q : Int} {c : Nat} {s : RV} (h : s.1 ≠ 0 ∧ (s.2 2 7 = p ∨ s.2 2 7 = q)) : lpC n x g p q (c + 1) s = lpC n x g p q c ((g (goC s.2 n)).1, adC (g (goC s.2 n)).2 x (s.2 2 7) 0) := if_pos h
theorem lpC_f {n : Nat} {x : Int} {g : Me → RV} {p q : Int} {c : Nat} {s : RV} (h : ¬ (s.1 ≠ 0 ∧ (s.2 2 7 = p ∨ s.2 2 7 = q))) : lpC n x g p q c s = s := by
  cases c with
  | zero => rfl
  | succ c => exact if_neg h
def oneB (n : Nat) (x : Int) (R : RF) (o : Int) (M : Me) : RV :=
  if M 2 7 = 2 ∨ (25 ≤ M 2 7 ∧ M 2 7 ≤ 33) then leC M x n (M 2 7)
  else if M 2 7 ≠ 3 ∧ M 2 7 ≠ 7 ∧ M 2 7 ≠ 35 ∧ M 2 7 ≠ 36 ∧ M 2 7 ≠ 37 then (0, rfC M 1)
  else if 8 ≤ o then (0, rfC M 3)
  else if M 2 7 = 37 then R 4 (o + 1) 0 (goC M n)
  else if M 2 7 = 3 then (if (R 0 (o + 1) 0 (goC M n)).1 = 0 then (0, (R 0 (o + 1) 0 (goC M n)).2) else paC (R 0 (o + 1) 0 (goC M n)).2 n 4)
  else R 3 (o + 1) (M 2 7) (goC M n)
def chgB (x : Int) (R : RF) (o k : Int) (M : Me) : RV := ((R 2 o 0 M).1, adC (R 2 o 0 M).2 x (if k = 7 then 44 else k) 0)
def choB (n : Nat) (x : Int) (R : RF) (o : Int) (M : Me) : RV :=
  let r1 := R 5 o 0 M
  if r1.1 = 0 then (0, r1.2) else
  let r2 := pkC r1.2 x n 38
  if r2.1 = 0 then (0, r2.2) else
  let r3 := R 0 o 0 r2.2
  if r3.1 = 0 then (0, r3.2) else
  let r4 := pkC r3.2 x n 39
  if r4.1 = 0 then (0, r4.2) else
  let r5 := R 0 o 0 (amC r4.2 x (r1.2 x 1))
  if r5.1 = 0 then (0, r5.2) else paC (amC r5.2 x (r3.2 x 1)) n 40
def askB (n : Nat) (x : Int) (R : RF) (o : Int) (M : Me) : RV :=
  if M 2 7 = 41 then (if o < 8 then R 8 (o + 1) 0 M else (0, rfC M 3))
  else if (R 0 o 0 M).1 = 0 then (0, (R 0 o 0 M).2)
  else if (R 0 o 0 M).2 2 7 < 10 ∨ 15 < (R 0 o 0 M).2 2 7 then (0, rfC (R 0 o 0 M).2 1)
  else ((R 0 o 0 (goC (R 0 o 0 M).2 n)).1, adC (R 0 o 0 (goC (R 0 o 0 M).2 n)).2 x ((R 0 o 0 M).2 2 7) 0)
def notB (n : Nat) (x : Int) (R : RF) (o : Int) (M : Me) : RV := ((R 7 o 0 (goC M n)).1, adC (R 7 o 0 (goC M n)).2 x 41 0)
def rdB (n : Nat) (x : Int) (R : RF) : RF := fun fn o k M =>
  if fn = 0 then lpC n x (fun N => R 1 o 0 N) 6 7 300 (R 1 o 0 M)
  else if fn = 1 then lpC n x (fun N => R 2 o 0 N) 8 9 300 (R 2 o 0 M)
  else if fn = 2 then oneB n x R o M
  else if fn = 3 then chgB x R o k M
  else if fn = 4 then choB n x R o M
  else if fn = 5 then lpC n x (fun N => R 6 o 0 N) 43 43 300 (R 6 o 0 M)
  else if fn = 6 then lpC n x (fun N => R 7 o 0 N) 42 42 300 (R 7 o 0 M)
  else if fn = 7 then askB n x R o M
  else notB n x R o M
/-- the class's reading of a law: 0 sum, 1 product, 2 one, 3 changed, 4 choice, 5 either, 6 both, 7 ask, 8 not -/
def rdC (n : Nat) (x : Int) : Nat → RF
  | 0 => fun _ _ _ M => (0, M)
  | f + 1 => rdB n x (rdC n x f)
/-- what a part of the reading keeps -/
def GP (n : Nat) (x : Int) (r : RV) : Prop := PR r.2 x n ∧ (r.1 = 0 ∨ r.1 = 1)
theorem GP.pa {M : Me} {x : Int} {n : Nat} (h : PR M x n) (hx : 15 ≤ x ∧ x ≤ 39) {due : Int} : GP n x (paC M n due) := ⟨h.pa hx, by unfold paC; split <;> simp⟩
theorem GP.pk {M : Me} {x : Int} {n : Nat} (h : PR M x n) (hx : 15 ≤ x ∧ x ≤ 39) {due : Int} : GP n x (pkC M x n due) := ⟨h.pk hx, by unfold pkC; split <;> simp⟩
theorem GP.le {M : Me} {x : Int} {n : Nat} (h : PR M x n) (hx : 15 ≤ x ∧ x ≤ 39) {k : Int} : GP n x (leC M x n k) := ⟨h.le hx, by unfold leC; (repeat' split) <;> simp⟩
theorem GP.lp {x : Int} {n : Nat} (hx : 15 ≤ x ∧ x ≤ 39) {g : Me → RV} {p q : Int} (hg : ∀ M, PR M x n → GP n x (g M)) : ∀ (c : Nat) (s : RV), GP n x s → GP n x (lpC n x g p q c s) := by
  intro c
  induction c with
  | zero => intro s h; exact h
  | succ c ih =>
    intro s h
    by_cases q : s.1 ≠ 0 ∧ (s.2 2 7 = p ∨ s.2 2 7 = q)
    · rw [lpC_t q]
      have h2 := hg _ (h.1.go hx)
      exact ih _ ⟨h2.1.ad hx, h2.2⟩
    · rw [lpC_f q]; exact h
theorem GP.z {x : Int} {n : Nat} {M : Me} (h : PR M x n) : GP n x (0, M) := ⟨h, Or.inl rfl⟩
theorem GP.bd {x : Int} {n : Nat} (hx : 15 ≤ x ∧ x ≤ 39) {R : RF} (hR : ∀ fn o k M, PR M x n → GP n x (R fn o k M)) : ∀ fn o k M, PR M x n → GP n x (rdB n x R fn o k M) := by
  intro fn o k M h
  unfold rdB
  (repeat' split)
  · exact GP.lp hx (fun N q => hR _ _ _ _ q) _ _ (hR _ _ _ _ h)
  · exact GP.lp hx (fun N q => hR _ _ _ _ q) _ _ (hR _ _ _ _ h)
  · unfold oneB
    (repeat' split)
    · exact GP.le h hx
    · exact GP.z (h.rf hx)
    · exact GP.z (h.rf hx)
    · exact hR _ _ _ _ (h.go hx)
    · exact GP.z (hR _ _ _ _ (h.go hx)).1
    · exact GP.pa (hR _ _ _ _ (h.go hx)).1 hx
    · exact hR _ _ _ _ (h.go hx)
  · have h2 := hR 2 o 0 M h
    exact ⟨h2.1.ad hx, h2.2⟩
  · have h1 := hR 5 o 0 M h
    have h2 := GP.pk (due := 38) h1.1 hx
    have h3 := hR 0 o 0 _ h2.1
    have h4 := GP.pk (due := 39) h3.1 hx
    have h5 := hR 0 o 0 _ (h4.1.am hx (j := (R 5 o 0 M).2 x 1))
    unfold choB
    dsimp only
    split
    · exact GP.z h1.1
    · split
      · exact GP.z h2.1
      · split
        · exact GP.z h3.1
        · split
          · exact GP.z h4.1
          · split
            · exact GP.z h5.1
            · exact GP.pa (h5.1.am hx) hx
  · exact GP.lp hx (fun N q => hR _ _ _ _ q) _ _ (hR _ _ _ _ h)
  · exact GP.lp hx (fun N q => hR _ _ _ _ q) _ _ (hR _ _ _ _ h)
  · have h1 := hR 0 o 0 M h
    have h2 := hR 0 o 0 _ (h1.1.go hx)
    unfold askB
    (repeat' split)
    · exact hR _ _ _ _ h
    · exact GP.z (h.rf hx)
    · exact GP.z h1.1
    · exact GP.z (h1.1.rf hx)
    · exact ⟨h2.1.ad hx, h2.2⟩
  · have h1 := hR 7 o 0 _ (h.go hx)
    exact ⟨h1.1.ad hx, h1.2⟩
theorem GP.rd {x : Int} {n : Nat} (hx : 15 ≤ x ∧ x ≤ 39) : ∀ (f : Nat) (fn o k : Int) (M : Me), PR M x n → GP n x (rdC n x f fn o k M) := by
  intro f
  induction f with
  | zero => intro fn o k M h; exact GP.z h
  | succ f ih => exact GP.bd hx ih
/-- what a part of the reading is to do, D calls deep -/
abbrev RC (k : MI) (D : Nat) (x y z : Int) (n : Nat) (av : List AV) (g : Me → RV) : Prop := ∀ M : Me, PR M x n → Con k D 0 0 ((1, 2) :: av) (Sf x y z) M (Ex (some (0, (g M).1)) (Sf x y z) (g M).2)
theorem l_readSum {x y z : Int} (hq : TS (Sf x y z) x) (hx : 15 ≤ x ∧ x ≤ 39) {n : Nat} {D : Nat} (hD : 7 ≤ D) {o : Int} {g : Me → RV} (hg : RC kX4_readProduct D x y z n [(0, o)] g) (hp : ∀ M, PR M x n → GP n x (g M)) : ∀ (c i : Nat), c + i = 300 → ∀ s : RV, GP n x s → V kX4_readSum 0 0 (D + 1) none (Ex (some (0, (lpC n x g 6 7 c s).1)) (Sf x y z) (lpC n x g 6 7 c s).2) 8 [(1, 2), (0, o), (0, s.1), (0, (i : Int)), (9, 0)] [] (Sf x y z) s.2 0 0 := by
  obtain ⟨x0, x1, x2, x3, -, -, -, -, -⟩ := id hq
  intro c
  induction c with
  | zero =>
    intro i hi s hs
    have h01 := hs.2
    refine r_iload_n dX4_readSum_8 rfl ?_
    refine r_sipush dX4_readSum_9 (by decide) (by decide) ?_
    refine r_icmp_ge (tgt := 69) dX4_readSum_12 (by decide) (fun h12 => ?_) (fun h12 => by exfalso; omega)
    refine r_iload_n dX4_readSum_69 rfl ?_
    refine r_zret dX4_readSum_70 rfl (by omega) ?_
    exact ⟨rfl, rfl, rfl⟩
  | succ c ih =>
    intro i hi s hs
    have h01 := hs.2
    have hg2 := hp _ (hs.1.go hx)
    have hPs := hs.1
    by_cases hc : s.1 ≠ 0 ∧ (s.2 2 7 = 6 ∨ s.2 2 7 = 7)
    · rw [lpC_t hc]
      have ih9 := ih (i + 1) (by omega) ((g (goC s.2 n)).1, adC (g (goC s.2 n)).2 x (s.2 2 7) 0) ⟨hg2.1.ad hx, hg2.2⟩
      refine r_iload_n dX4_readSum_8 rfl ?_
      refine r_sipush dX4_readSum_9 (by decide) (by decide) ?_
      refine r_icmp_ge (tgt := 69) dX4_readSum_12 (by decide) (fun h12 => by exfalso; omega) (fun h12 => ?_)
      refine r_iload_n dX4_readSum_15 rfl ?_
      refine r_if_eq (tgt := 69) dX4_readSum_16 (by decide) (fun h16 => by exfalso; exact absurd (by assumption) hc.1) (fun h16 => ?_)
      refine r_aload_n dX4_readSum_19 rfl (by decide) ?_
      refine r_gi 7 dX4_readSum_20 flX4_40 sf2 (by decide) (by decide) rfl rfl (by first | assumption | ((repeat (first | (apply rd_ne; · omega) | (apply rd_eq; · omega) | (apply rd_out; · omega) | (apply rd_in; · omega))); first | assumption | rfl)) ?_
      refine r_bipush dX4_readSum_23 (by decide) (by decide) ?_
      refine r_icmp_eq (tgt := 37) dX4_readSum_25 (by decide) (fun h25 => ?_) (fun h25 => ?_)
      · refine r_aload_n dX4_readSum_37 rfl (by decide) ?_
        refine r_gi 7 dX4_readSum_38 flX4_40 sf2 (by decide) (by decide) rfl rfl rfl ?_
        refine r_istore dX4_readSum_41 rfl (by decide) st4 ?_
        refine r_aload_n dX4_readSum_43 rfl (by decide) ?_
        refine r_cw0 dX4_readSum_44 clX4_37 sf2 (by decide) (by decide) rfl (by first | decide | omega) (Nat.le_of_ble_eq_true rfl) ((c_go (M := s.2) hPs.1 hPs.2.1 hPs.2.2.1)) ⟨Nat.zero_le _, Nat.zero_le _⟩ ?_
        refine r_aload_n dX4_readSum_47 rfl (by decide) ?_
        refine r_iload_n dX4_readSum_48 rfl ?_
        refine r_cv1 dX4_readSum_49 clX4_94 sf2 (by decide) (by decide) rfl (by first | decide | omega) (Nat.le_of_ble_eq_true rfl) ((hg _ (hPs.go hx))) ⟨Nat.zero_le _, Nat.zero_le _⟩ (fun _ => ?_)
        refine r_istore_n dX4_readSum_52 rfl (by decide) st2 ?_
        refine r_aload_n dX4_readSum_53 rfl (by decide) ?_
        refine r_getr (x := x) dX4_readSum_54 flX4_25 sf2 (by decide) (by decide) rfl rfl ?_
        refine r_iload dX4_readSum_57 rfl ?_
        refine r_iconst dX4_readSum_59 (by decide) ?_
        refine r_cw2 dX4_readSum_60 clX4_91 x0 (by omega) (by decide) rfl (by first | decide | omega) (Nat.le_of_ble_eq_true rfl) ((c_add (M := (g (goC s.2 n)).2) hq hx hg2.1.2.2.2.1)) ⟨Nat.zero_le _, Nat.zero_le _⟩ ?_
        refine r_iinc dX4_readSum_63 rfl rfl (by decide) (w32_id (by omega)) st3 ?_
        refine r_goto (tgt := 8) dX4_readSum_66 (by decide) ?_
        exact wk4 ih9
      · refine r_aload_n dX4_readSum_28 rfl (by decide) ?_
        refine r_gi 7 dX4_readSum_29 flX4_40 sf2 (by decide) (by decide) rfl rfl (by first | assumption | ((repeat (first | (apply rd_ne; · omega) | (apply rd_eq; · omega) | (apply rd_out; · omega) | (apply rd_in; · omega))); first | assumption | rfl)) ?_
        refine r_bipush dX4_readSum_32 (by decide) (by decide) ?_
        refine r_icmp_ne (tgt := 69) dX4_readSum_34 (by decide) (fun h34 => ?_) (fun h34 => ?_)
        · exfalso; omega
        · refine r_aload_n dX4_readSum_37 rfl (by decide) ?_
          refine r_gi 7 dX4_readSum_38 flX4_40 sf2 (by decide) (by decide) rfl rfl rfl ?_
          refine r_istore dX4_readSum_41 rfl (by decide) st4 ?_
          refine r_aload_n dX4_readSum_43 rfl (by decide) ?_
          refine r_cw0 dX4_readSum_44 clX4_37 sf2 (by decide) (by decide) rfl (by first | decide | omega) (Nat.le_of_ble_eq_true rfl) ((c_go (M := s.2) hPs.1 hPs.2.1 hPs.2.2.1)) ⟨Nat.zero_le _, Nat.zero_le _⟩ ?_
          refine r_aload_n dX4_readSum_47 rfl (by decide) ?_
          refine r_iload_n dX4_readSum_48 rfl ?_
          refine r_cv1 dX4_readSum_49 clX4_94 sf2 (by decide) (by decide) rfl (by first | decide | omega) (Nat.le_of_ble_eq_true rfl) ((hg _ (hPs.go hx))) ⟨Nat.zero_le _, Nat.zero_le _⟩ (fun _ => ?_)
          refine r_istore_n dX4_readSum_52 rfl (by decide) st2 ?_
          refine r_aload_n dX4_readSum_53 rfl (by decide) ?_
          refine r_getr (x := x) dX4_readSum_54 flX4_25 sf2 (by decide) (by decide) rfl rfl ?_
          refine r_iload dX4_readSum_57 rfl ?_
          refine r_iconst dX4_readSum_59 (by decide) ?_
          refine r_cw2 dX4_readSum_60 clX4_91 x0 (by omega) (by decide) rfl (by first | decide | omega) (Nat.le_of_ble_eq_true rfl) ((c_add (M := (g (goC s.2 n)).2) hq hx hg2.1.2.2.2.1)) ⟨Nat.zero_le _, Nat.zero_le _⟩ ?_
          refine r_iinc dX4_readSum_63 rfl rfl (by decide) (w32_id (by omega)) st3 ?_
          refine r_goto (tgt := 8) dX4_readSum_66 (by decide) ?_
          exact wk4 ih9
    · rw [lpC_f hc]
      refine r_iload_n dX4_readSum_8 rfl ?_
      refine r_sipush dX4_readSum_9 (by decide) (by decide) ?_
      refine r_icmp_ge (tgt := 69) dX4_readSum_12 (by decide) (fun h12 => by exfalso; omega) (fun h12 => ?_)
      refine r_iload_n dX4_readSum_15 rfl ?_
      refine r_if_eq (tgt := 69) dX4_readSum_16 (by decide) (fun h16 => ?_) (fun h16 => ?_)
      · refine r_iload_n dX4_readSum_69 rfl ?_
        refine r_zret dX4_readSum_70 rfl (by omega) ?_
        exact ⟨rfl, rfl, rfl⟩
      · refine r_aload_n dX4_readSum_19 rfl (by decide) ?_
        refine r_gi 7 dX4_readSum_20 flX4_40 sf2 (by decide) (by decide) rfl rfl (by first | assumption | ((repeat (first | (apply rd_ne; · omega) | (apply rd_eq; · omega) | (apply rd_out; · omega) | (apply rd_in; · omega))); first | assumption | rfl)) ?_
        refine r_bipush dX4_readSum_23 (by decide) (by decide) ?_
        refine r_icmp_eq (tgt := 37) dX4_readSum_25 (by decide) (fun h25 => ?_) (fun h25 => ?_)
        · exfalso; omega
        · refine r_aload_n dX4_readSum_28 rfl (by decide) ?_
          refine r_gi 7 dX4_readSum_29 flX4_40 sf2 (by decide) (by decide) rfl rfl (by first | assumption | ((repeat (first | (apply rd_ne; · omega) | (apply rd_eq; · omega) | (apply rd_out; · omega) | (apply rd_in; · omega))); first | assumption | rfl)) ?_
          refine r_bipush dX4_readSum_32 (by decide) (by decide) ?_
          refine r_icmp_ne (tgt := 69) dX4_readSum_34 (by decide) (fun h34 => ?_) (fun h34 => ?_)
          · refine r_iload_n dX4_readSum_69 rfl ?_
            refine r_zret dX4_readSum_70 rfl (by omega) ?_
            exact ⟨rfl, rfl, rfl⟩
          · exfalso; omega
theorem c_readSum {x y z : Int} (hq : TS (Sf x y z) x) (hx : 15 ≤ x ∧ x ≤ 39) {n : Nat} {D : Nat} (hD : 7 ≤ D) {o : Int} {g : Me → RV} (hg : RC kX4_readProduct D x y z n [(0, o)] g) (hp : ∀ M, PR M x n → GP n x (g M)) : RC kX4_readSum (D + 1) x y z n [(0, o)] (fun M => lpC n x g 6 7 300 (g M)) := by
  intro M hP
  obtain ⟨x0, x1, x2, x3, -, -, -, -, -⟩ := id hq
  refine Con.ofV (al := [(1, 2), (0, o), (9, 0), (9, 0), (9, 0)]) 3 (by decide) (Nat.le_of_ble_eq_true rfl) rfl ?_
  refine r_aload_n dX4_readSum_0 rfl (by decide) ?_
  refine r_iload_n dX4_readSum_1 rfl ?_
  refine r_cv1 dX4_readSum_2 clX4_94 sf2 (by decide) (by decide) rfl (by first | decide | omega) (Nat.le_of_ble_eq_true rfl) ((hg M hP)) ⟨Nat.zero_le _, Nat.zero_le _⟩ (fun _ => ?_)
  refine r_istore_n dX4_readSum_5 rfl (by decide) st2 ?_
  refine r_iconst dX4_readSum_6 (by decide) ?_
  refine r_istore_n dX4_readSum_7 rfl (by decide) st3 ?_
  exact l_readSum hq hx hD hg hp 300 0 rfl (g M) (hp M hP)
theorem l_readProduct {x y z : Int} (hq : TS (Sf x y z) x) (hx : 15 ≤ x ∧ x ≤ 39) {n : Nat} {D : Nat} (hD : 7 ≤ D) {o : Int} {g : Me → RV} (hg : RC kX4_readOne D x y z n [(0, o)] g) (hp : ∀ M, PR M x n → GP n x (g M)) : ∀ (c i : Nat), c + i = 300 → ∀ s : RV, GP n x s → V kX4_readProduct 0 0 (D + 1) none (Ex (some (0, (lpC n x g 8 9 c s).1)) (Sf x y z) (lpC n x g 8 9 c s).2) 8 [(1, 2), (0, o), (0, s.1), (0, (i : Int)), (9, 0)] [] (Sf x y z) s.2 0 0 := by
  obtain ⟨x0, x1, x2, x3, -, -, -, -, -⟩ := id hq
  intro c
  induction c with
  | zero =>
    intro i hi s hs
    have h01 := hs.2
    refine r_iload_n dX4_readProduct_8 rfl ?_
    refine r_sipush dX4_readProduct_9 (by decide) (by decide) ?_
    refine r_icmp_ge (tgt := 69) dX4_readProduct_12 (by decide) (fun h12 => ?_) (fun h12 => by exfalso; omega)
    refine r_iload_n dX4_readProduct_69 rfl ?_
    refine r_zret dX4_readProduct_70 rfl (by omega) ?_
    exact ⟨rfl, rfl, rfl⟩
  | succ c ih =>
    intro i hi s hs
    have h01 := hs.2
    have hg2 := hp _ (hs.1.go hx)
    have hPs := hs.1
    by_cases hc : s.1 ≠ 0 ∧ (s.2 2 7 = 8 ∨ s.2 2 7 = 9)
    · rw [lpC_t hc]
      have ih9 := ih (i + 1) (by omega) ((g (goC s.2 n)).1, adC (g (goC s.2 n)).2 x (s.2 2 7) 0) ⟨hg2.1.ad hx, hg2.2⟩
      refine r_iload_n dX4_readProduct_8 rfl ?_
      refine r_sipush dX4_readProduct_9 (by decide) (by decide) ?_
      refine r_icmp_ge (tgt := 69) dX4_readProduct_12 (by decide) (fun h12 => by exfalso; omega) (fun h12 => ?_)
      refine r_iload_n dX4_readProduct_15 rfl ?_
      refine r_if_eq (tgt := 69) dX4_readProduct_16 (by decide) (fun h16 => by exfalso; exact absurd (by assumption) hc.1) (fun h16 => ?_)
      refine r_aload_n dX4_readProduct_19 rfl (by decide) ?_
      refine r_gi 7 dX4_readProduct_20 flX4_40 sf2 (by decide) (by decide) rfl rfl (by first | assumption | ((repeat (first | (apply rd_ne; · omega) | (apply rd_eq; · omega) | (apply rd_out; · omega) | (apply rd_in; · omega))); first | assumption | rfl)) ?_
      refine r_bipush dX4_readProduct_23 (by decide) (by decide) ?_
      refine r_icmp_eq (tgt := 37) dX4_readProduct_25 (by decide) (fun h25 => ?_) (fun h25 => ?_)
      · refine r_aload_n dX4_readProduct_37 rfl (by decide) ?_
        refine r_gi 7 dX4_readProduct_38 flX4_40 sf2 (by decide) (by decide) rfl rfl rfl ?_
        refine r_istore dX4_readProduct_41 rfl (by decide) st4 ?_
        refine r_aload_n dX4_readProduct_43 rfl (by decide) ?_
        refine r_cw0 dX4_readProduct_44 clX4_37 sf2 (by decide) (by decide) rfl (by first | decide | omega) (Nat.le_of_ble_eq_true rfl) ((c_go (M := s.2) hPs.1 hPs.2.1 hPs.2.2.1)) ⟨Nat.zero_le _, Nat.zero_le _⟩ ?_
        refine r_aload_n dX4_readProduct_47 rfl (by decide) ?_
        refine r_iload_n dX4_readProduct_48 rfl ?_
        refine r_cv1 dX4_readProduct_49 clX4_97 sf2 (by decide) (by decide) rfl (by first | decide | omega) (Nat.le_of_ble_eq_true rfl) ((hg _ (hPs.go hx))) ⟨Nat.zero_le _, Nat.zero_le _⟩ (fun _ => ?_)
        refine r_istore_n dX4_readProduct_52 rfl (by decide) st2 ?_
        refine r_aload_n dX4_readProduct_53 rfl (by decide) ?_
        refine r_getr (x := x) dX4_readProduct_54 flX4_25 sf2 (by decide) (by decide) rfl rfl ?_
        refine r_iload dX4_readProduct_57 rfl ?_
        refine r_iconst dX4_readProduct_59 (by decide) ?_
        refine r_cw2 dX4_readProduct_60 clX4_91 x0 (by omega) (by decide) rfl (by first | decide | omega) (Nat.le_of_ble_eq_true rfl) ((c_add (M := (g (goC s.2 n)).2) hq hx hg2.1.2.2.2.1)) ⟨Nat.zero_le _, Nat.zero_le _⟩ ?_
        refine r_iinc dX4_readProduct_63 rfl rfl (by decide) (w32_id (by omega)) st3 ?_
        refine r_goto (tgt := 8) dX4_readProduct_66 (by decide) ?_
        exact wk4 ih9
      · refine r_aload_n dX4_readProduct_28 rfl (by decide) ?_
        refine r_gi 7 dX4_readProduct_29 flX4_40 sf2 (by decide) (by decide) rfl rfl (by first | assumption | ((repeat (first | (apply rd_ne; · omega) | (apply rd_eq; · omega) | (apply rd_out; · omega) | (apply rd_in; · omega))); first | assumption | rfl)) ?_
        refine r_bipush dX4_readProduct_32 (by decide) (by decide) ?_
        refine r_icmp_ne (tgt := 69) dX4_readProduct_34 (by decide) (fun h34 => ?_) (fun h34 => ?_)
        · exfalso; omega
        · refine r_aload_n dX4_readProduct_37 rfl (by decide) ?_
          refine r_gi 7 dX4_readProduct_38 flX4_40 sf2 (by decide) (by decide) rfl rfl rfl ?_
          refine r_istore dX4_readProduct_41 rfl (by decide) st4 ?_
          refine r_aload_n dX4_readProduct_43 rfl (by decide) ?_
          refine r_cw0 dX4_readProduct_44 clX4_37 sf2 (by decide) (by decide) rfl (by first | decide | omega) (Nat.le_of_ble_eq_true rfl) ((c_go (M := s.2) hPs.1 hPs.2.1 hPs.2.2.1)) ⟨Nat.zero_le _, Nat.zero_le _⟩ ?_
          refine r_aload_n dX4_readProduct_47 rfl (by decide) ?_
          refine r_iload_n dX4_readProduct_48 rfl ?_
          refine r_cv1 dX4_readProduct_49 clX4_97 sf2 (by decide) (by decide) rfl (by first | decide | omega) (Nat.le_of_ble_eq_true rfl) ((hg _ (hPs.go hx))) ⟨Nat.zero_le _, Nat.zero_le _⟩ (fun _ => ?_)
          refine r_istore_n dX4_readProduct_52 rfl (by decide) st2 ?_
          refine r_aload_n dX4_readProduct_53 rfl (by decide) ?_
          refine r_getr (x := x) dX4_readProduct_54 flX4_25 sf2 (by decide) (by decide) rfl rfl ?_
          refine r_iload dX4_readProduct_57 rfl ?_
          refine r_iconst dX4_readProduct_59 (by decide) ?_
          refine r_cw2 dX4_readProduct_60 clX4_91 x0 (by omega) (by decide) rfl (by first | decide | omega) (Nat.le_of_ble_eq_true rfl) ((c_add (M := (g (goC s.2 n)).2) hq hx hg2.1.2.2.2.1)) ⟨Nat.zero_le _, Nat.zero_le _⟩ ?_
          refine r_iinc dX4_readProduct_63 rfl rfl (by decide) (w32_id (by omega)) st3 ?_
          refine r_goto (tgt := 8) dX4_readProduct_66 (by decide) ?_
          exact wk4 ih9
    · rw [lpC_f hc]
      refine r_iload_n dX4_readProduct_8 rfl ?_
      refine r_sipush dX4_readProduct_9 (by decide) (by decide) ?_
      refine r_icmp_ge (tgt := 69) dX4_readProduct_12 (by decide) (fun h12 => by exfalso; omega) (fun h12 => ?_)
      refine r_iload_n dX4_readProduct_15 rfl ?_
      refine r_if_eq (tgt := 69) dX4_readProduct_16 (by decide) (fun h16 => ?_) (fun h16 => ?_)
      · refine r_iload_n dX4_readProduct_69 rfl ?_
        refine r_zret dX4_readProduct_70 rfl (by omega) ?_
        exact ⟨rfl, rfl, rfl⟩
      · refine r_aload_n dX4_readProduct_19 rfl (by decide) ?_
        refine r_gi 7 dX4_readProduct_20 flX4_40 sf2 (by decide) (by decide) rfl rfl (by first | assumption | ((repeat (first | (apply rd_ne; · omega) | (apply rd_eq; · omega) | (apply rd_out; · omega) | (apply rd_in; · omega))); first | assumption | rfl)) ?_
        refine r_bipush dX4_readProduct_23 (by decide) (by decide) ?_
        refine r_icmp_eq (tgt := 37) dX4_readProduct_25 (by decide) (fun h25 => ?_) (fun h25 => ?_)
        · exfalso; omega
        · refine r_aload_n dX4_readProduct_28 rfl (by decide) ?_
          refine r_gi 7 dX4_readProduct_29 flX4_40 sf2 (by decide) (by decide) rfl rfl (by first | assumption | ((repeat (first | (apply rd_ne; · omega) | (apply rd_eq; · omega) | (apply rd_out; · omega) | (apply rd_in; · omega))); first | assumption | rfl)) ?_
          refine r_bipush dX4_readProduct_32 (by decide) (by decide) ?_
          refine r_icmp_ne (tgt := 69) dX4_readProduct_34 (by decide) (fun h34 => ?_) (fun h34 => ?_)
          · refine r_iload_n dX4_readProduct_69 rfl ?_
            refine r_zret dX4_readProduct_70 rfl (by omega) ?_
            exact ⟨rfl, rfl, rfl⟩
          · exfalso; omega
theorem c_readProduct {x y z : Int} (hq : TS (Sf x y z) x) (hx : 15 ≤ x ∧ x ≤ 39) {n : Nat} {D : Nat} (hD : 7 ≤ D) {o : Int} {g : Me → RV} (hg : RC kX4_readOne D x y z n [(0, o)] g) (hp : ∀ M, PR M x n → GP n x (g M)) : RC kX4_readProduct (D + 1) x y z n [(0, o)] (fun M => lpC n x g 8 9 300 (g M)) := by
  intro M hP
  obtain ⟨x0, x1, x2, x3, -, -, -, -, -⟩ := id hq
  refine Con.ofV (al := [(1, 2), (0, o), (9, 0), (9, 0), (9, 0)]) 3 (by decide) (Nat.le_of_ble_eq_true rfl) rfl ?_
  refine r_aload_n dX4_readProduct_0 rfl (by decide) ?_
  refine r_iload_n dX4_readProduct_1 rfl ?_
  refine r_cv1 dX4_readProduct_2 clX4_97 sf2 (by decide) (by decide) rfl (by first | decide | omega) (Nat.le_of_ble_eq_true rfl) ((hg M hP)) ⟨Nat.zero_le _, Nat.zero_le _⟩ (fun _ => ?_)
  refine r_istore_n dX4_readProduct_5 rfl (by decide) st2 ?_
  refine r_iconst dX4_readProduct_6 (by decide) ?_
  refine r_istore_n dX4_readProduct_7 rfl (by decide) st3 ?_
  exact l_readProduct hq hx hD hg hp 300 0 rfl (g M) (hp M hP)
theorem l_readEither {x y z : Int} (hq : TS (Sf x y z) x) (hx : 15 ≤ x ∧ x ≤ 39) {n : Nat} {D : Nat} (hD : 7 ≤ D) {o : Int} {g : Me → RV} (hg : RC kX4_readBoth D x y z n [(0, o)] g) (hp : ∀ M, PR M x n → GP n x (g M)) : ∀ (c i : Nat), c + i = 300 → ∀ s : RV, GP n x s → V kX4_readEither 0 0 (D + 1) none (Ex (some (0, (lpC n x g 43 43 c s).1)) (Sf x y z) (lpC n x g 43 43 c s).2) 8 [(1, 2), (0, o), (0, s.1), (0, (i : Int))] [] (Sf x y z) s.2 0 0 := by
  obtain ⟨x0, x1, x2, x3, -, -, -, -, -⟩ := id hq
  intro c
  induction c with
  | zero =>
    intro i hi s hs
    have h01 := hs.2
    refine r_iload_n dX4_readEither_8 rfl ?_
    refine r_sipush dX4_readEither_9 (by decide) (by decide) ?_
    refine r_icmp_ge (tgt := 54) dX4_readEither_12 (by decide) (fun h12 => ?_) (fun h12 => by exfalso; omega)
    refine r_iload_n dX4_readEither_54 rfl ?_
    refine r_zret dX4_readEither_55 rfl (by omega) ?_
    exact ⟨rfl, rfl, rfl⟩
  | succ c ih =>
    intro i hi s hs
    have h01 := hs.2
    have hg2 := hp _ (hs.1.go hx)
    have hPs := hs.1
    by_cases hc : s.1 ≠ 0 ∧ (s.2 2 7 = 43 ∨ s.2 2 7 = 43)
    · rw [lpC_t hc]
      have ih9 := ih (i + 1) (by omega) ((g (goC s.2 n)).1, adC (g (goC s.2 n)).2 x (s.2 2 7) 0) ⟨hg2.1.ad hx, hg2.2⟩
      refine r_iload_n dX4_readEither_8 rfl ?_
      refine r_sipush dX4_readEither_9 (by decide) (by decide) ?_
      refine r_icmp_ge (tgt := 54) dX4_readEither_12 (by decide) (fun h12 => by exfalso; omega) (fun h12 => ?_)
      refine r_iload_n dX4_readEither_15 rfl ?_
      refine r_if_eq (tgt := 54) dX4_readEither_16 (by decide) (fun h16 => by exfalso; omega) (fun h16 => ?_)
      refine r_aload_n dX4_readEither_19 rfl (by decide) ?_
      refine r_gi 7 dX4_readEither_20 flX4_40 sf2 (by decide) (by decide) rfl rfl (by first | assumption | ((repeat (first | (apply rd_ne; · omega) | (apply rd_eq; · omega) | (apply rd_out; · omega) | (apply rd_in; · omega))); first | assumption | rfl)) ?_
      refine r_bipush dX4_readEither_23 (by decide) (by decide) ?_
      refine r_icmp_ne (tgt := 54) dX4_readEither_25 (by decide) (fun h25 => ?_) (fun h25 => ?_)
      · exfalso; omega
      · refine r_aload_n dX4_readEither_28 rfl (by decide) ?_
        refine r_cw0 dX4_readEither_29 clX4_37 sf2 (by decide) (by decide) rfl (by first | decide | omega) (Nat.le_of_ble_eq_true rfl) ((c_go (M := s.2) hPs.1 hPs.2.1 hPs.2.2.1)) ⟨Nat.zero_le _, Nat.zero_le _⟩ ?_
        refine r_aload_n dX4_readEither_32 rfl (by decide) ?_
        refine r_iload_n dX4_readEither_33 rfl ?_
        refine r_cv1 dX4_readEither_34 clX4_116 sf2 (by decide) (by decide) rfl (by first | decide | omega) (Nat.le_of_ble_eq_true rfl) ((hg _ (hPs.go hx))) ⟨Nat.zero_le _, Nat.zero_le _⟩ (fun _ => ?_)
        refine r_istore_n dX4_readEither_37 rfl (by decide) st2 ?_
        refine r_aload_n dX4_readEither_38 rfl (by decide) ?_
        refine r_getr (x := x) dX4_readEither_39 flX4_25 sf2 (by decide) (by decide) rfl rfl ?_
        refine r_bipush dX4_readEither_42 (by decide) (by decide) ?_
        refine r_iconst dX4_readEither_44 (by decide) ?_
        have etk : s.2 2 7 = 43 := by omega
        rw [etk] at ih9
        refine r_cw2 dX4_readEither_45 clX4_91 x0 (by omega) (by decide) rfl (by first | decide | omega) (Nat.le_of_ble_eq_true rfl) ((c_add (M := (g (goC s.2 n)).2) hq hx hg2.1.2.2.2.1)) ⟨Nat.zero_le _, Nat.zero_le _⟩ ?_
        refine r_iinc dX4_readEither_48 rfl rfl (by decide) (w32_id (by omega)) st3 ?_
        refine r_goto (tgt := 8) dX4_readEither_51 (by decide) ?_
        rw [etk]
        exact ih9
    · rw [lpC_f hc]
      refine r_iload_n dX4_readEither_8 rfl ?_
      refine r_sipush dX4_readEither_9 (by decide) (by decide) ?_
      refine r_icmp_ge (tgt := 54) dX4_readEither_12 (by decide) (fun h12 => by exfalso; omega) (fun h12 => ?_)
      refine r_iload_n dX4_readEither_15 rfl ?_
      refine r_if_eq (tgt := 54) dX4_readEither_16 (by decide) (fun h16 => ?_) (fun h16 => ?_)
      · refine r_iload_n dX4_readEither_54 rfl ?_
        refine r_zret dX4_readEither_55 rfl (by omega) ?_
        exact ⟨rfl, rfl, rfl⟩
      · refine r_aload_n dX4_readEither_19 rfl (by decide) ?_
        refine r_gi 7 dX4_readEither_20 flX4_40 sf2 (by decide) (by decide) rfl rfl (by first | assumption | ((repeat (first | (apply rd_ne; · omega) | (apply rd_eq; · omega) | (apply rd_out; · omega) | (apply rd_in; · omega))); first | assumption | rfl)) ?_
        refine r_bipush dX4_readEither_23 (by decide) (by decide) ?_
        refine r_icmp_ne (tgt := 54) dX4_readEither_25 (by decide) (fun h25 => ?_) (fun h25 => ?_)
        · refine r_iload_n dX4_readEither_54 rfl ?_
          refine r_zret dX4_readEither_55 rfl (by omega) ?_
          exact ⟨rfl, rfl, rfl⟩
        · exfalso; omega
theorem c_readEither {x y z : Int} (hq : TS (Sf x y z) x) (hx : 15 ≤ x ∧ x ≤ 39) {n : Nat} {D : Nat} (hD : 7 ≤ D) {o : Int} {g : Me → RV} (hg : RC kX4_readBoth D x y z n [(0, o)] g) (hp : ∀ M, PR M x n → GP n x (g M)) : RC kX4_readEither (D + 1) x y z n [(0, o)] (fun M => lpC n x g 43 43 300 (g M)) := by
  intro M hP
  obtain ⟨x0, x1, x2, x3, -, -, -, -, -⟩ := id hq
  refine Con.ofV (al := [(1, 2), (0, o), (9, 0), (9, 0)]) 2 (by decide) (Nat.le_of_ble_eq_true rfl) rfl ?_
  refine r_aload_n dX4_readEither_0 rfl (by decide) ?_
  refine r_iload_n dX4_readEither_1 rfl ?_
  refine r_cv1 dX4_readEither_2 clX4_116 sf2 (by decide) (by decide) rfl (by first | decide | omega) (Nat.le_of_ble_eq_true rfl) ((hg M hP)) ⟨Nat.zero_le _, Nat.zero_le _⟩ (fun _ => ?_)
  refine r_istore_n dX4_readEither_5 rfl (by decide) st2 ?_
  refine r_iconst dX4_readEither_6 (by decide) ?_
  refine r_istore_n dX4_readEither_7 rfl (by decide) st3 ?_
  exact l_readEither hq hx hD hg hp 300 0 rfl (g M) (hp M hP)
theorem l_readBoth {x y z : Int} (hq : TS (Sf x y z) x) (hx : 15 ≤ x ∧ x ≤ 39) {n : Nat} {D : Nat} (hD : 7 ≤ D) {o : Int} {g : Me → RV} (hg : RC kX4_readAsk D x y z n [(0, o)] g) (hp : ∀ M, PR M x n → GP n x (g M)) : ∀ (c i : Nat), c + i = 300 → ∀ s : RV, GP n x s → V kX4_readBoth 0 0 (D + 1) none (Ex (some (0, (lpC n x g 42 42 c s).1)) (Sf x y z) (lpC n x g 42 42 c s).2) 8 [(1, 2), (0, o), (0, s.1), (0, (i : Int))] [] (Sf x y z) s.2 0 0 := by
  obtain ⟨x0, x1, x2, x3, -, -, -, -, -⟩ := id hq
  intro c
  induction c with
  | zero =>
    intro i hi s hs
    have h01 := hs.2
    refine r_iload_n dX4_readBoth_8 rfl ?_
    refine r_sipush dX4_readBoth_9 (by decide) (by decide) ?_
    refine r_icmp_ge (tgt := 54) dX4_readBoth_12 (by decide) (fun h12 => ?_) (fun h12 => by exfalso; omega)
    refine r_iload_n dX4_readBoth_54 rfl ?_
    refine r_zret dX4_readBoth_55 rfl (by omega) ?_
    exact ⟨rfl, rfl, rfl⟩
  | succ c ih =>
    intro i hi s hs
    have h01 := hs.2
    have hg2 := hp _ (hs.1.go hx)
    have hPs := hs.1
    by_cases hc : s.1 ≠ 0 ∧ (s.2 2 7 = 42 ∨ s.2 2 7 = 42)
    · rw [lpC_t hc]
      have ih9 := ih (i + 1) (by omega) ((g (goC s.2 n)).1, adC (g (goC s.2 n)).2 x (s.2 2 7) 0) ⟨hg2.1.ad hx, hg2.2⟩
      refine r_iload_n dX4_readBoth_8 rfl ?_
      refine r_sipush dX4_readBoth_9 (by decide) (by decide) ?_
      refine r_icmp_ge (tgt := 54) dX4_readBoth_12 (by decide) (fun h12 => by exfalso; omega) (fun h12 => ?_)
      refine r_iload_n dX4_readBoth_15 rfl ?_
      refine r_if_eq (tgt := 54) dX4_readBoth_16 (by decide) (fun h16 => by exfalso; omega) (fun h16 => ?_)
      refine r_aload_n dX4_readBoth_19 rfl (by decide) ?_
      refine r_gi 7 dX4_readBoth_20 flX4_40 sf2 (by decide) (by decide) rfl rfl (by first | assumption | ((repeat (first | (apply rd_ne; · omega) | (apply rd_eq; · omega) | (apply rd_out; · omega) | (apply rd_in; · omega))); first | assumption | rfl)) ?_
      refine r_bipush dX4_readBoth_23 (by decide) (by decide) ?_
      refine r_icmp_ne (tgt := 54) dX4_readBoth_25 (by decide) (fun h25 => ?_) (fun h25 => ?_)
      · exfalso; omega
      · refine r_aload_n dX4_readBoth_28 rfl (by decide) ?_
        refine r_cw0 dX4_readBoth_29 clX4_37 sf2 (by decide) (by decide) rfl (by first | decide | omega) (Nat.le_of_ble_eq_true rfl) ((c_go (M := s.2) hPs.1 hPs.2.1 hPs.2.2.1)) ⟨Nat.zero_le _, Nat.zero_le _⟩ ?_
        refine r_aload_n dX4_readBoth_32 rfl (by decide) ?_
        refine r_iload_n dX4_readBoth_33 rfl ?_
        refine r_cv1 dX4_readBoth_34 clX4_119 sf2 (by decide) (by decide) rfl (by first | decide | omega) (Nat.le_of_ble_eq_true rfl) ((hg _ (hPs.go hx))) ⟨Nat.zero_le _, Nat.zero_le _⟩ (fun _ => ?_)
        refine r_istore_n dX4_readBoth_37 rfl (by decide) st2 ?_
        refine r_aload_n dX4_readBoth_38 rfl (by decide) ?_
        refine r_getr (x := x) dX4_readBoth_39 flX4_25 sf2 (by decide) (by decide) rfl rfl ?_
        refine r_bipush dX4_readBoth_42 (by decide) (by decide) ?_
        refine r_iconst dX4_readBoth_44 (by decide) ?_
        have etk : s.2 2 7 = 42 := by omega
        rw [etk] at ih9
        refine r_cw2 dX4_readBoth_45 clX4_91 x0 (by omega) (by decide) rfl (by first | decide | omega) (Nat.le_of_ble_eq_true rfl) ((c_add (M := (g (goC s.2 n)).2) hq hx hg2.1.2.2.2.1)) ⟨Nat.zero_le _, Nat.zero_le _⟩ ?_
        refine r_iinc dX4_readBoth_48 rfl rfl (by decide) (w32_id (by omega)) st3 ?_
        refine r_goto (tgt := 8) dX4_readBoth_51 (by decide) ?_
        rw [etk]
        exact ih9
    · rw [lpC_f hc]
      refine r_iload_n dX4_readBoth_8 rfl ?_
      refine r_sipush dX4_readBoth_9 (by decide) (by decide) ?_
      refine r_icmp_ge (tgt := 54) dX4_readBoth_12 (by decide) (fun h12 => by exfalso; omega) (fun h12 => ?_)
      refine r_iload_n dX4_readBoth_15 rfl ?_
      refine r_if_eq (tgt := 54) dX4_readBoth_16 (by decide) (fun h16 => ?_) (fun h16 => ?_)
      · refine r_iload_n dX4_readBoth_54 rfl ?_
        refine r_zret dX4_readBoth_55 rfl (by omega) ?_
        exact ⟨rfl, rfl, rfl⟩
      · refine r_aload_n dX4_readBoth_19 rfl (by decide) ?_
        refine r_gi 7 dX4_readBoth_20 flX4_40 sf2 (by decide) (by decide) rfl rfl (by first | assumption | ((repeat (first | (apply rd_ne; · omega) | (apply rd_eq; · omega) | (apply rd_out; · omega) | (apply rd_in; · omega))); first | assumption | rfl)) ?_
        refine r_bipush dX4_readBoth_23 (by decide) (by decide) ?_
        refine r_icmp_ne (tgt := 54) dX4_readBoth_25 (by decide) (fun h25 => ?_) (fun h25 => ?_)
        · refine r_iload_n dX4_readBoth_54 rfl ?_
          refine r_zret dX4_readBoth_55 rfl (by omega) ?_
          exact ⟨rfl, rfl, rfl⟩
        · exfalso; omega
theorem c_readBoth {x y z : Int} (hq : TS (Sf x y z) x) (hx : 15 ≤ x ∧ x ≤ 39) {n : Nat} {D : Nat} (hD : 7 ≤ D) {o : Int} {g : Me → RV} (hg : RC kX4_readAsk D x y z n [(0, o)] g) (hp : ∀ M, PR M x n → GP n x (g M)) : RC kX4_readBoth (D + 1) x y z n [(0, o)] (fun M => lpC n x g 42 42 300 (g M)) := by
  intro M hP
  obtain ⟨x0, x1, x2, x3, -, -, -, -, -⟩ := id hq
  refine Con.ofV (al := [(1, 2), (0, o), (9, 0), (9, 0)]) 2 (by decide) (Nat.le_of_ble_eq_true rfl) rfl ?_
  refine r_aload_n dX4_readBoth_0 rfl (by decide) ?_
  refine r_iload_n dX4_readBoth_1 rfl ?_
  refine r_cv1 dX4_readBoth_2 clX4_119 sf2 (by decide) (by decide) rfl (by first | decide | omega) (Nat.le_of_ble_eq_true rfl) ((hg M hP)) ⟨Nat.zero_le _, Nat.zero_le _⟩ (fun _ => ?_)
  refine r_istore_n dX4_readBoth_5 rfl (by decide) st2 ?_
  refine r_iconst dX4_readBoth_6 (by decide) ?_
  refine r_istore_n dX4_readBoth_7 rfl (by decide) st3 ?_
  exact l_readBoth hq hx hD hg hp 300 0 rfl (g M) (hp M hP)
theorem pa_0 {M : Me} {n : Nat} {due : Int} (h : (paC M n due).1 = 0) : (paC M n due).1 = 0 := h
theorem pa_1 {M : Me} {n : Nat} {due : Int} (h : (paC M n due).1 ≠ 0) : (paC M n due).1 = 1 := by
  unfold paC at h ⊢
  split
  · rfl
  · rename_i q; rw [if_neg q] at h; exact absurd rfl h
theorem pk_1 {M : Me} {x : Int} {n : Nat} {due : Int} (h : (pkC M x n due).1 ≠ 0) : (pkC M x n due).1 = 1 := by
  unfold pkC at h ⊢
  split
  · rfl
  · rename_i q; rw [if_neg q] at h; exact absurd rfl h
theorem c_readOne {x y z : Int} (hq : TS (Sf x y z) x) (hx : 15 ≤ x ∧ x ≤ 39) {n : Nat} {D : Nat} (hD : 7 ≤ D) {o : Int} {R : RF} (hp : ∀ fn o k M, PR M x n → GP n x (R fn o k M)) (h4 : o < 8 → RC kX4_readChoice D x y z n [(0, o + 1)] (R 4 (o + 1) 0)) (h0 : o < 8 → RC kX4_readSum D x y z n [(0, o + 1)] (R 0 (o + 1) 0)) (h3 : o < 8 → ∀ k : Int, RC kX4_readChanged D x y z n [(0, k), (0, o + 1)] (R 3 (o + 1) k)) (ho : 0 ≤ o ∧ o ≤ 8) : RC kX4_readOne (D + 1) x y z n [(0, o)] (fun M => oneB n x R o M) := by
  intro M hP
  obtain ⟨x0, x1, x2, x3, -, -, -, -, -⟩ := id hq
  have hG := hP.go hx
  have b1 := (GP.le hP hx (k := M 2 7)).2
  have b2 := (hp 4 (o + 1) 0 _ hG).2
  have b3 := (hp 3 (o + 1) (M 2 7) _ hG).2
  have b4 := (hp 0 (o + 1) 0 _ hG).2
  have b5 := (GP.pa (hp 0 (o + 1) 0 _ hG).1 hx (due := 4)).2
  refine Con.ofV (al := [(1, 2), (0, o), (9, 0)]) 1 (by decide) (Nat.le_of_ble_eq_true rfl) rfl ?_
  refine r_aload_n dX4_readOne_0 rfl (by decide) ?_
  refine r_gi 7 dX4_readOne_1 flX4_40 sf2 (by decide) (by decide) rfl rfl rfl ?_
  refine r_istore_n dX4_readOne_4 rfl (by decide) st2 ?_
  refine r_iload_n dX4_readOne_5 rfl ?_
  refine r_iconst dX4_readOne_6 (by decide) ?_
  refine r_icmp_eq (tgt := 22) dX4_readOne_7 (by decide) (fun h7 => ?_) (fun h7 => ?_)
  · refine r_aload_n dX4_readOne_22 rfl (by decide) ?_
    refine r_iload_n dX4_readOne_23 rfl ?_
    refine r_cv1 dX4_readOne_24 clX4_100 sf2 (by decide) (by decide) rfl (by first | decide | omega) (Nat.le_of_ble_eq_true rfl) ((c_readLeaf hq hx hP)) ⟨Nat.zero_le _, Nat.zero_le _⟩ (fun _ => ?_)
    refine r_zret dX4_readOne_27 rfl (by omega) ?_
    first | (exfalso; omega) | exact ⟨by show _ = some (0, (oneB n x R o M).1); unfold oneB; rw [if_pos (by first | omega | assumption)], rfl, by show _ = (oneB n x R o M).2; unfold oneB; rw [if_pos (by first | omega | assumption)]⟩
  · refine r_iload_n dX4_readOne_10 rfl ?_
    refine r_bipush dX4_readOne_11 (by decide) (by decide) ?_
    refine r_icmp_lt (tgt := 28) dX4_readOne_13 (by decide) (fun h13 => ?_) (fun h13 => ?_)
    · refine r_iload_n dX4_readOne_28 rfl ?_
      refine r_iconst dX4_readOne_29 (by decide) ?_
      refine r_icmp_eq (tgt := 63) dX4_readOne_30 (by decide) (fun h30 => ?_) (fun h30 => ?_)
      · refine r_iload_n dX4_readOne_63 rfl ?_
        refine r_bipush dX4_readOne_64 (by decide) (by decide) ?_
        refine r_icmp_lt (tgt := 75) dX4_readOne_66 (by decide) (fun h66 => ?_) (fun h66 => ?_)
        · refine r_aload_n dX4_readOne_75 rfl (by decide) ?_
          refine r_cw0 dX4_readOne_76 clX4_37 sf2 (by decide) (by decide) rfl (by first | decide | omega) (Nat.le_of_ble_eq_true rfl) ((c_go hP.1 hP.2.1 hP.2.2.1)) ⟨Nat.zero_le _, Nat.zero_le _⟩ ?_
          refine r_iload_n dX4_readOne_79 rfl ?_
          refine r_bipush dX4_readOne_80 (by decide) (by decide) ?_
          refine r_icmp_ne (tgt := 93) dX4_readOne_82 (by decide) (fun h82 => ?_) (fun h82 => ?_)
          · refine r_iload_n dX4_readOne_93 rfl ?_
            refine r_iconst dX4_readOne_94 (by decide) ?_
            refine r_icmp_ne (tgt := 124) dX4_readOne_95 (by decide) (fun h95 => ?_) (fun h95 => ?_)
            · refine r_aload_n dX4_readOne_124 rfl (by decide) ?_
              refine r_iload_n dX4_readOne_125 rfl ?_
              refine r_iload_n dX4_readOne_126 rfl ?_
              refine r_iconst dX4_readOne_127 (by decide) ?_
              refine r_iadd dX4_readOne_128 (w32_id (by omega)) ?_
              refine r_cv2 dX4_readOne_129 clX4_106 sf2 (by decide) (by decide) rfl (by first | decide | omega) (Nat.le_of_ble_eq_true rfl) ((h3 (by omega) _ _ hG)) ⟨Nat.zero_le _, Nat.zero_le _⟩ (fun _ => ?_)
              refine r_zret dX4_readOne_132 rfl (by omega) ?_
              first | (exfalso; omega) | exact ⟨by show _ = some (0, (oneB n x R o M).1); unfold oneB; rw [if_neg (by first | omega | assumption), if_neg (by first | omega | assumption), if_neg (by first | omega | assumption), if_neg (by first | omega | assumption), if_pos (by first | omega | assumption), if_pos (by first | omega | assumption)], rfl, by show _ = (oneB n x R o M).2; unfold oneB; rw [if_neg (by first | omega | assumption), if_neg (by first | omega | assumption), if_neg (by first | omega | assumption), if_neg (by first | omega | assumption), if_pos (by first | omega | assumption), if_pos (by first | omega | assumption)]⟩ | exact ⟨by show _ = some (0, (oneB n x R o M).1); unfold oneB; rw [if_neg (by first | omega | assumption), if_neg (by first | omega | assumption), if_neg (by first | omega | assumption), if_neg (by first | omega | assumption), if_pos (by first | omega | assumption), if_neg (by first | omega | assumption)]; rw [pa_0 (by assumption)], rfl, by show _ = (oneB n x R o M).2; unfold oneB; rw [if_neg (by first | omega | assumption), if_neg (by first | omega | assumption), if_neg (by first | omega | assumption), if_neg (by first | omega | assumption), if_pos (by first | omega | assumption), if_neg (by first | omega | assumption)]⟩ | exact ⟨by show _ = some (0, (oneB n x R o M).1); unfold oneB; rw [if_neg (by first | omega | assumption), if_neg (by first | omega | assumption), if_neg (by first | omega | assumption), if_neg (by first | omega | assumption), if_pos (by first | omega | assumption), if_neg (by first | omega | assumption)]; rw [pa_1 (by assumption)], rfl, by show _ = (oneB n x R o M).2; unfold oneB; rw [if_neg (by first | omega | assumption), if_neg (by first | omega | assumption), if_neg (by first | omega | assumption), if_neg (by first | omega | assumption), if_pos (by first | omega | assumption), if_neg (by first | omega | assumption)]⟩ | exact ⟨by show _ = some (0, (oneB n x R o M).1); unfold oneB; rw [if_neg (by first | omega | assumption), if_neg (by first | omega | assumption), if_neg (by first | omega | assumption), if_neg (by first | omega | assumption), if_neg (by first | omega | assumption)], rfl, by show _ = (oneB n x R o M).2; unfold oneB; rw [if_neg (by first | omega | assumption), if_neg (by first | omega | assumption), if_neg (by first | omega | assumption), if_neg (by first | omega | assumption), if_neg (by first | omega | assumption)]⟩
            · refine r_aload_n dX4_readOne_98 rfl (by decide) ?_
              refine r_iload_n dX4_readOne_99 rfl ?_
              refine r_iconst dX4_readOne_100 (by decide) ?_
              refine r_iadd dX4_readOne_101 (w32_id (by omega)) ?_
              refine r_cv1 dX4_readOne_102 clX4_74 sf2 (by decide) (by decide) rfl (by first | decide | omega) (Nat.le_of_ble_eq_true rfl) ((h0 (by omega) _ hG)) ⟨Nat.zero_le _, Nat.zero_le _⟩ (fun _ => ?_)
              refine r_if_eq (tgt := 120) dX4_readOne_105 (by decide) (fun h105 => ?_) (fun h105 => ?_)
              · refine r_iconst dX4_readOne_120 (by decide) ?_
                refine r_goto (tgt := 132) dX4_readOne_121 (by decide) ?_
                refine r_zret dX4_readOne_132 rfl (by omega) ?_
                first | (exfalso; omega) | exact ⟨by show _ = some (0, (oneB n x R o M).1); unfold oneB; rw [if_neg (by first | omega | assumption), if_neg (by first | omega | assumption), if_neg (by first | omega | assumption), if_neg (by first | omega | assumption), if_pos (by first | omega | assumption), if_pos (by first | omega | assumption)], rfl, by show _ = (oneB n x R o M).2; unfold oneB; rw [if_neg (by first | omega | assumption), if_neg (by first | omega | assumption), if_neg (by first | omega | assumption), if_neg (by first | omega | assumption), if_pos (by first | omega | assumption), if_pos (by first | omega | assumption)]⟩ | exact ⟨by show _ = some (0, (oneB n x R o M).1); unfold oneB; rw [if_neg (by first | omega | assumption), if_neg (by first | omega | assumption), if_neg (by first | omega | assumption), if_neg (by first | omega | assumption), if_pos (by first | omega | assumption), if_neg (by first | omega | assumption)]; rw [pa_0 (by assumption)], rfl, by show _ = (oneB n x R o M).2; unfold oneB; rw [if_neg (by first | omega | assumption), if_neg (by first | omega | assumption), if_neg (by first | omega | assumption), if_neg (by first | omega | assumption), if_pos (by first | omega | assumption), if_neg (by first | omega | assumption)]⟩ | exact ⟨by show _ = some (0, (oneB n x R o M).1); unfold oneB; rw [if_neg (by first | omega | assumption), if_neg (by first | omega | assumption), if_neg (by first | omega | assumption), if_neg (by first | omega | assumption), if_pos (by first | omega | assumption), if_neg (by first | omega | assumption)]; rw [pa_1 (by assumption)], rfl, by show _ = (oneB n x R o M).2; unfold oneB; rw [if_neg (by first | omega | assumption), if_neg (by first | omega | assumption), if_neg (by first | omega | assumption), if_neg (by first | omega | assumption), if_pos (by first | omega | assumption), if_neg (by first | omega | assumption)]⟩ | exact ⟨by show _ = some (0, (oneB n x R o M).1); unfold oneB; rw [if_neg (by first | omega | assumption), if_neg (by first | omega | assumption), if_neg (by first | omega | assumption), if_neg (by first | omega | assumption), if_neg (by first | omega | assumption)], rfl, by show _ = (oneB n x R o M).2; unfold oneB; rw [if_neg (by first | omega | assumption), if_neg (by first | omega | assumption), if_neg (by first | omega | assumption), if_neg (by first | omega | assumption), if_neg (by first | omega | assumption)]⟩
              · refine r_aload_n dX4_readOne_108 rfl (by decide) ?_
                refine r_iconst dX4_readOne_109 (by decide) ?_
                refine r_cv1 dX4_readOne_110 clX4_70 sf2 (by decide) (by decide) rfl (by first | decide | omega) (Nat.le_of_ble_eq_true rfl) ((c_pass hq hx (hp 0 (o + 1) 0 _ hG).1)) ⟨Nat.zero_le _, Nat.zero_le _⟩ (fun _ => ?_)
                refine r_if_eq (tgt := 120) dX4_readOne_113 (by decide) (fun h113 => ?_) (fun h113 => ?_)
                · refine r_iconst dX4_readOne_120 (by decide) ?_
                  refine r_goto (tgt := 132) dX4_readOne_121 (by decide) ?_
                  refine r_zret dX4_readOne_132 rfl (by omega) ?_
                  first | (exfalso; omega) | exact ⟨by show _ = some (0, (oneB n x R o M).1); unfold oneB; rw [if_neg (by first | omega | assumption), if_neg (by first | omega | assumption), if_neg (by first | omega | assumption), if_neg (by first | omega | assumption), if_pos (by first | omega | assumption), if_pos (by first | omega | assumption)], rfl, by show _ = (oneB n x R o M).2; unfold oneB; rw [if_neg (by first | omega | assumption), if_neg (by first | omega | assumption), if_neg (by first | omega | assumption), if_neg (by first | omega | assumption), if_pos (by first | omega | assumption), if_pos (by first | omega | assumption)]⟩ | exact ⟨by show _ = some (0, (oneB n x R o M).1); unfold oneB; rw [if_neg (by first | omega | assumption), if_neg (by first | omega | assumption), if_neg (by first | omega | assumption), if_neg (by first | omega | assumption), if_pos (by first | omega | assumption), if_neg (by first | omega | assumption)]; rw [pa_0 (by assumption)], rfl, by show _ = (oneB n x R o M).2; unfold oneB; rw [if_neg (by first | omega | assumption), if_neg (by first | omega | assumption), if_neg (by first | omega | assumption), if_neg (by first | omega | assumption), if_pos (by first | omega | assumption), if_neg (by first | omega | assumption)]⟩ | exact ⟨by show _ = some (0, (oneB n x R o M).1); unfold oneB; rw [if_neg (by first | omega | assumption), if_neg (by first | omega | assumption), if_neg (by first | omega | assumption), if_neg (by first | omega | assumption), if_pos (by first | omega | assumption), if_neg (by first | omega | assumption)]; rw [pa_1 (by assumption)], rfl, by show _ = (oneB n x R o M).2; unfold oneB; rw [if_neg (by first | omega | assumption), if_neg (by first | omega | assumption), if_neg (by first | omega | assumption), if_neg (by first | omega | assumption), if_pos (by first | omega | assumption), if_neg (by first | omega | assumption)]⟩ | exact ⟨by show _ = some (0, (oneB n x R o M).1); unfold oneB; rw [if_neg (by first | omega | assumption), if_neg (by first | omega | assumption), if_neg (by first | omega | assumption), if_neg (by first | omega | assumption), if_neg (by first | omega | assumption)], rfl, by show _ = (oneB n x R o M).2; unfold oneB; rw [if_neg (by first | omega | assumption), if_neg (by first | omega | assumption), if_neg (by first | omega | assumption), if_neg (by first | omega | assumption), if_neg (by first | omega | assumption)]⟩
                · refine r_iconst dX4_readOne_116 (by decide) ?_
                  refine r_goto (tgt := 132) dX4_readOne_117 (by decide) ?_
                  refine r_zret dX4_readOne_132 rfl (by omega) ?_
                  first | (exfalso; omega) | exact ⟨by show _ = some (0, (oneB n x R o M).1); unfold oneB; rw [if_neg (by first | omega | assumption), if_neg (by first | omega | assumption), if_neg (by first | omega | assumption), if_neg (by first | omega | assumption), if_pos (by first | omega | assumption), if_pos (by first | omega | assumption)], rfl, by show _ = (oneB n x R o M).2; unfold oneB; rw [if_neg (by first | omega | assumption), if_neg (by first | omega | assumption), if_neg (by first | omega | assumption), if_neg (by first | omega | assumption), if_pos (by first | omega | assumption), if_pos (by first | omega | assumption)]⟩ | exact ⟨by show _ = some (0, (oneB n x R o M).1); unfold oneB; rw [if_neg (by first | omega | assumption), if_neg (by first | omega | assumption), if_neg (by first | omega | assumption), if_neg (by first | omega | assumption), if_pos (by first | omega | assumption), if_neg (by first | omega | assumption)]; rw [pa_0 (by assumption)], rfl, by show _ = (oneB n x R o M).2; unfold oneB; rw [if_neg (by first | omega | assumption), if_neg (by first | omega | assumption), if_neg (by first | omega | assumption), if_neg (by first | omega | assumption), if_pos (by first | omega | assumption), if_neg (by first | omega | assumption)]⟩ | exact ⟨by show _ = some (0, (oneB n x R o M).1); unfold oneB; rw [if_neg (by first | omega | assumption), if_neg (by first | omega | assumption), if_neg (by first | omega | assumption), if_neg (by first | omega | assumption), if_pos (by first | omega | assumption), if_neg (by first | omega | assumption)]; rw [pa_1 (by assumption)], rfl, by show _ = (oneB n x R o M).2; unfold oneB; rw [if_neg (by first | omega | assumption), if_neg (by first | omega | assumption), if_neg (by first | omega | assumption), if_neg (by first | omega | assumption), if_pos (by first | omega | assumption), if_neg (by first | omega | assumption)]⟩ | exact ⟨by show _ = some (0, (oneB n x R o M).1); unfold oneB; rw [if_neg (by first | omega | assumption), if_neg (by first | omega | assumption), if_neg (by first | omega | assumption), if_neg (by first | omega | assumption), if_neg (by first | omega | assumption)], rfl, by show _ = (oneB n x R o M).2; unfold oneB; rw [if_neg (by first | omega | assumption), if_neg (by first | omega | assumption), if_neg (by first | omega | assumption), if_neg (by first | omega | assumption), if_neg (by first | omega | assumption)]⟩
          · refine r_aload_n dX4_readOne_85 rfl (by decide) ?_
            refine r_iload_n dX4_readOne_86 rfl ?_
            refine r_iconst dX4_readOne_87 (by decide) ?_
            refine r_iadd dX4_readOne_88 (w32_id (by omega)) ?_
            refine r_cv1 dX4_readOne_89 clX4_103 sf2 (by decide) (by decide) rfl (by first | decide | omega) (Nat.le_of_ble_eq_true rfl) ((h4 (by omega) _ hG)) ⟨Nat.zero_le _, Nat.zero_le _⟩ (fun _ => ?_)
            refine r_zret dX4_readOne_92 rfl (by omega) ?_
            first | (exfalso; omega) | exact ⟨by show _ = some (0, (oneB n x R o M).1); unfold oneB; rw [if_neg (by first | omega | assumption), if_neg (by first | omega | assumption), if_neg (by first | omega | assumption), if_pos (by first | omega | assumption)], rfl, by show _ = (oneB n x R o M).2; unfold oneB; rw [if_neg (by first | omega | assumption), if_neg (by first | omega | assumption), if_neg (by first | omega | assumption), if_pos (by first | omega | assumption)]⟩
        · refine r_aload_n dX4_readOne_69 rfl (by decide) ?_
          refine r_iconst dX4_readOne_70 (by decide) ?_
          refine r_cv1 dX4_readOne_71 clX4_50 sf2 (by decide) (by decide) rfl (by first | decide | omega) (Nat.le_of_ble_eq_true rfl) (c_refuse) ⟨Nat.zero_le _, Nat.zero_le _⟩ (fun _ => ?_)
          refine r_zret dX4_readOne_74 rfl (by omega) ?_
          first | (exfalso; omega) | exact ⟨by show _ = some (0, (oneB n x R o M).1); unfold oneB; rw [if_neg (by first | omega | assumption), if_neg (by first | omega | assumption), if_pos (by first | omega | assumption)], rfl, by show _ = (oneB n x R o M).2; unfold oneB; rw [if_neg (by first | omega | assumption), if_neg (by first | omega | assumption), if_pos (by first | omega | assumption)]⟩
      · refine r_iload_n dX4_readOne_33 rfl ?_
        refine r_bipush dX4_readOne_34 (by decide) (by decide) ?_
        refine r_icmp_eq (tgt := 63) dX4_readOne_36 (by decide) (fun h36 => ?_) (fun h36 => ?_)
        · refine r_iload_n dX4_readOne_63 rfl ?_
          refine r_bipush dX4_readOne_64 (by decide) (by decide) ?_
          refine r_icmp_lt (tgt := 75) dX4_readOne_66 (by decide) (fun h66 => ?_) (fun h66 => ?_)
          · refine r_aload_n dX4_readOne_75 rfl (by decide) ?_
            refine r_cw0 dX4_readOne_76 clX4_37 sf2 (by decide) (by decide) rfl (by first | decide | omega) (Nat.le_of_ble_eq_true rfl) ((c_go hP.1 hP.2.1 hP.2.2.1)) ⟨Nat.zero_le _, Nat.zero_le _⟩ ?_
            refine r_iload_n dX4_readOne_79 rfl ?_
            refine r_bipush dX4_readOne_80 (by decide) (by decide) ?_
            refine r_icmp_ne (tgt := 93) dX4_readOne_82 (by decide) (fun h82 => ?_) (fun h82 => ?_)
            · refine r_iload_n dX4_readOne_93 rfl ?_
              refine r_iconst dX4_readOne_94 (by decide) ?_
              refine r_icmp_ne (tgt := 124) dX4_readOne_95 (by decide) (fun h95 => ?_) (fun h95 => ?_)
              · refine r_aload_n dX4_readOne_124 rfl (by decide) ?_
                refine r_iload_n dX4_readOne_125 rfl ?_
                refine r_iload_n dX4_readOne_126 rfl ?_
                refine r_iconst dX4_readOne_127 (by decide) ?_
                refine r_iadd dX4_readOne_128 (w32_id (by omega)) ?_
                refine r_cv2 dX4_readOne_129 clX4_106 sf2 (by decide) (by decide) rfl (by first | decide | omega) (Nat.le_of_ble_eq_true rfl) ((h3 (by omega) _ _ hG)) ⟨Nat.zero_le _, Nat.zero_le _⟩ (fun _ => ?_)
                refine r_zret dX4_readOne_132 rfl (by omega) ?_
                first | (exfalso; omega) | exact ⟨by show _ = some (0, (oneB n x R o M).1); unfold oneB; rw [if_neg (by first | omega | assumption), if_neg (by first | omega | assumption), if_neg (by first | omega | assumption), if_neg (by first | omega | assumption), if_pos (by first | omega | assumption), if_pos (by first | omega | assumption)], rfl, by show _ = (oneB n x R o M).2; unfold oneB; rw [if_neg (by first | omega | assumption), if_neg (by first | omega | assumption), if_neg (by first | omega | assumption), if_neg (by first | omega | assumption), if_pos (by first | omega | assumption), if_pos (by first | omega | assumption)]⟩ | exact ⟨by show _ = some (0, (oneB n x R o M).1); unfold oneB; rw [if_neg (by first | omega | assumption), if_neg (by first | omega | assumption), if_neg (by first | omega | assumption), if_neg (by first | omega | assumption), if_pos (by first | omega | assumption), if_neg (by first | omega | assumption)]; rw [pa_0 (by assumption)], rfl, by show _ = (oneB n x R o M).2; unfold oneB; rw [if_neg (by first | omega | assumption), if_neg (by first | omega | assumption), if_neg (by first | omega | assumption), if_neg (by first | omega | assumption), if_pos (by first | omega | assumption), if_neg (by first | omega | assumption)]⟩ | exact ⟨by show _ = some (0, (oneB n x R o M).1); unfold oneB; rw [if_neg (by first | omega | assumption), if_neg (by first | omega | assumption), if_neg (by first | omega | assumption), if_neg (by first | omega | assumption), if_pos (by first | omega | assumption), if_neg (by first | omega | assumption)]; rw [pa_1 (by assumption)], rfl, by show _ = (oneB n x R o M).2; unfold oneB; rw [if_neg (by first | omega | assumption), if_neg (by first | omega | assumption), if_neg (by first | omega | assumption), if_neg (by first | omega | assumption), if_pos (by first | omega | assumption), if_neg (by first | omega | assumption)]⟩ | exact ⟨by show _ = some (0, (oneB n x R o M).1); unfold oneB; rw [if_neg (by first | omega | assumption), if_neg (by first | omega | assumption), if_neg (by first | omega | assumption), if_neg (by first | omega | assumption), if_neg (by first | omega | assumption)], rfl, by show _ = (oneB n x R o M).2; unfold oneB; rw [if_neg (by first | omega | assumption), if_neg (by first | omega | assumption), if_neg (by first | omega | assumption), if_neg (by first | omega | assumption), if_neg (by first | omega | assumption)]⟩
              · refine r_aload_n dX4_readOne_98 rfl (by decide) ?_
                refine r_iload_n dX4_readOne_99 rfl ?_
                refine r_iconst dX4_readOne_100 (by decide) ?_
                refine r_iadd dX4_readOne_101 (w32_id (by omega)) ?_
                refine r_cv1 dX4_readOne_102 clX4_74 sf2 (by decide) (by decide) rfl (by first | decide | omega) (Nat.le_of_ble_eq_true rfl) ((h0 (by omega) _ hG)) ⟨Nat.zero_le _, Nat.zero_le _⟩ (fun _ => ?_)
                refine r_if_eq (tgt := 120) dX4_readOne_105 (by decide) (fun h105 => ?_) (fun h105 => ?_)
                · refine r_iconst dX4_readOne_120 (by decide) ?_
                  refine r_goto (tgt := 132) dX4_readOne_121 (by decide) ?_
                  refine r_zret dX4_readOne_132 rfl (by omega) ?_
                  first | (exfalso; omega) | exact ⟨by show _ = some (0, (oneB n x R o M).1); unfold oneB; rw [if_neg (by first | omega | assumption), if_neg (by first | omega | assumption), if_neg (by first | omega | assumption), if_neg (by first | omega | assumption), if_pos (by first | omega | assumption), if_pos (by first | omega | assumption)], rfl, by show _ = (oneB n x R o M).2; unfold oneB; rw [if_neg (by first | omega | assumption), if_neg (by first | omega | assumption), if_neg (by first | omega | assumption), if_neg (by first | omega | assumption), if_pos (by first | omega | assumption), if_pos (by first | omega | assumption)]⟩ | exact ⟨by show _ = some (0, (oneB n x R o M).1); unfold oneB; rw [if_neg (by first | omega | assumption), if_neg (by first | omega | assumption), if_neg (by first | omega | assumption), if_neg (by first | omega | assumption), if_pos (by first | omega | assumption), if_neg (by first | omega | assumption)]; rw [pa_0 (by assumption)], rfl, by show _ = (oneB n x R o M).2; unfold oneB; rw [if_neg (by first | omega | assumption), if_neg (by first | omega | assumption), if_neg (by first | omega | assumption), if_neg (by first | omega | assumption), if_pos (by first | omega | assumption), if_neg (by first | omega | assumption)]⟩ | exact ⟨by show _ = some (0, (oneB n x R o M).1); unfold oneB; rw [if_neg (by first | omega | assumption), if_neg (by first | omega | assumption), if_neg (by first | omega | assumption), if_neg (by first | omega | assumption), if_pos (by first | omega | assumption), if_neg (by first | omega | assumption)]; rw [pa_1 (by assumption)], rfl, by show _ = (oneB n x R o M).2; unfold oneB; rw [if_neg (by first | omega | assumption), if_neg (by first | omega | assumption), if_neg (by first | omega | assumption), if_neg (by first | omega | assumption), if_pos (by first | omega | assumption), if_neg (by first | omega | assumption)]⟩ | exact ⟨by show _ = some (0, (oneB n x R o M).1); unfold oneB; rw [if_neg (by first | omega | assumption), if_neg (by first | omega | assumption), if_neg (by first | omega | assumption), if_neg (by first | omega | assumption), if_neg (by first | omega | assumption)], rfl, by show _ = (oneB n x R o M).2; unfold oneB; rw [if_neg (by first | omega | assumption), if_neg (by first | omega | assumption), if_neg (by first | omega | assumption), if_neg (by first | omega | assumption), if_neg (by first | omega | assumption)]⟩
                · refine r_aload_n dX4_readOne_108 rfl (by decide) ?_
                  refine r_iconst dX4_readOne_109 (by decide) ?_
                  refine r_cv1 dX4_readOne_110 clX4_70 sf2 (by decide) (by decide) rfl (by first | decide | omega) (Nat.le_of_ble_eq_true rfl) ((c_pass hq hx (hp 0 (o + 1) 0 _ hG).1)) ⟨Nat.zero_le _, Nat.zero_le _⟩ (fun _ => ?_)
                  refine r_if_eq (tgt := 120) dX4_readOne_113 (by decide) (fun h113 => ?_) (fun h113 => ?_)
                  · refine r_iconst dX4_readOne_120 (by decide) ?_
                    refine r_goto (tgt := 132) dX4_readOne_121 (by decide) ?_
                    refine r_zret dX4_readOne_132 rfl (by omega) ?_
                    first | (exfalso; omega) | exact ⟨by show _ = some (0, (oneB n x R o M).1); unfold oneB; rw [if_neg (by first | omega | assumption), if_neg (by first | omega | assumption), if_neg (by first | omega | assumption), if_neg (by first | omega | assumption), if_pos (by first | omega | assumption), if_pos (by first | omega | assumption)], rfl, by show _ = (oneB n x R o M).2; unfold oneB; rw [if_neg (by first | omega | assumption), if_neg (by first | omega | assumption), if_neg (by first | omega | assumption), if_neg (by first | omega | assumption), if_pos (by first | omega | assumption), if_pos (by first | omega | assumption)]⟩ | exact ⟨by show _ = some (0, (oneB n x R o M).1); unfold oneB; rw [if_neg (by first | omega | assumption), if_neg (by first | omega | assumption), if_neg (by first | omega | assumption), if_neg (by first | omega | assumption), if_pos (by first | omega | assumption), if_neg (by first | omega | assumption)]; rw [pa_0 (by assumption)], rfl, by show _ = (oneB n x R o M).2; unfold oneB; rw [if_neg (by first | omega | assumption), if_neg (by first | omega | assumption), if_neg (by first | omega | assumption), if_neg (by first | omega | assumption), if_pos (by first | omega | assumption), if_neg (by first | omega | assumption)]⟩ | exact ⟨by show _ = some (0, (oneB n x R o M).1); unfold oneB; rw [if_neg (by first | omega | assumption), if_neg (by first | omega | assumption), if_neg (by first | omega | assumption), if_neg (by first | omega | assumption), if_pos (by first | omega | assumption), if_neg (by first | omega | assumption)]; rw [pa_1 (by assumption)], rfl, by show _ = (oneB n x R o M).2; unfold oneB; rw [if_neg (by first | omega | assumption), if_neg (by first | omega | assumption), if_neg (by first | omega | assumption), if_neg (by first | omega | assumption), if_pos (by first | omega | assumption), if_neg (by first | omega | assumption)]⟩ | exact ⟨by show _ = some (0, (oneB n x R o M).1); unfold oneB; rw [if_neg (by first | omega | assumption), if_neg (by first | omega | assumption), if_neg (by first | omega | assumption), if_neg (by first | omega | assumption), if_neg (by first | omega | assumption)], rfl, by show _ = (oneB n x R o M).2; unfold oneB; rw [if_neg (by first | omega | assumption), if_neg (by first | omega | assumption), if_neg (by first | omega | assumption), if_neg (by first | omega | assumption), if_neg (by first | omega | assumption)]⟩
                  · refine r_iconst dX4_readOne_116 (by decide) ?_
                    refine r_goto (tgt := 132) dX4_readOne_117 (by decide) ?_
                    refine r_zret dX4_readOne_132 rfl (by omega) ?_
                    first | (exfalso; omega) | exact ⟨by show _ = some (0, (oneB n x R o M).1); unfold oneB; rw [if_neg (by first | omega | assumption), if_neg (by first | omega | assumption), if_neg (by first | omega | assumption), if_neg (by first | omega | assumption), if_pos (by first | omega | assumption), if_pos (by first | omega | assumption)], rfl, by show _ = (oneB n x R o M).2; unfold oneB; rw [if_neg (by first | omega | assumption), if_neg (by first | omega | assumption), if_neg (by first | omega | assumption), if_neg (by first | omega | assumption), if_pos (by first | omega | assumption), if_pos (by first | omega | assumption)]⟩ | exact ⟨by show _ = some (0, (oneB n x R o M).1); unfold oneB; rw [if_neg (by first | omega | assumption), if_neg (by first | omega | assumption), if_neg (by first | omega | assumption), if_neg (by first | omega | assumption), if_pos (by first | omega | assumption), if_neg (by first | omega | assumption)]; rw [pa_0 (by assumption)], rfl, by show _ = (oneB n x R o M).2; unfold oneB; rw [if_neg (by first | omega | assumption), if_neg (by first | omega | assumption), if_neg (by first | omega | assumption), if_neg (by first | omega | assumption), if_pos (by first | omega | assumption), if_neg (by first | omega | assumption)]⟩ | exact ⟨by show _ = some (0, (oneB n x R o M).1); unfold oneB; rw [if_neg (by first | omega | assumption), if_neg (by first | omega | assumption), if_neg (by first | omega | assumption), if_neg (by first | omega | assumption), if_pos (by first | omega | assumption), if_neg (by first | omega | assumption)]; rw [pa_1 (by assumption)], rfl, by show _ = (oneB n x R o M).2; unfold oneB; rw [if_neg (by first | omega | assumption), if_neg (by first | omega | assumption), if_neg (by first | omega | assumption), if_neg (by first | omega | assumption), if_pos (by first | omega | assumption), if_neg (by first | omega | assumption)]⟩ | exact ⟨by show _ = some (0, (oneB n x R o M).1); unfold oneB; rw [if_neg (by first | omega | assumption), if_neg (by first | omega | assumption), if_neg (by first | omega | assumption), if_neg (by first | omega | assumption), if_neg (by first | omega | assumption)], rfl, by show _ = (oneB n x R o M).2; unfold oneB; rw [if_neg (by first | omega | assumption), if_neg (by first | omega | assumption), if_neg (by first | omega | assumption), if_neg (by first | omega | assumption), if_neg (by first | omega | assumption)]⟩
            · refine r_aload_n dX4_readOne_85 rfl (by decide) ?_
              refine r_iload_n dX4_readOne_86 rfl ?_
              refine r_iconst dX4_readOne_87 (by decide) ?_
              refine r_iadd dX4_readOne_88 (w32_id (by omega)) ?_
              refine r_cv1 dX4_readOne_89 clX4_103 sf2 (by decide) (by decide) rfl (by first | decide | omega) (Nat.le_of_ble_eq_true rfl) ((h4 (by omega) _ hG)) ⟨Nat.zero_le _, Nat.zero_le _⟩ (fun _ => ?_)
              refine r_zret dX4_readOne_92 rfl (by omega) ?_
              first | (exfalso; omega) | exact ⟨by show _ = some (0, (oneB n x R o M).1); unfold oneB; rw [if_neg (by first | omega | assumption), if_neg (by first | omega | assumption), if_neg (by first | omega | assumption), if_pos (by first | omega | assumption)], rfl, by show _ = (oneB n x R o M).2; unfold oneB; rw [if_neg (by first | omega | assumption), if_neg (by first | omega | assumption), if_neg (by first | omega | assumption), if_pos (by first | omega | assumption)]⟩
          · refine r_aload_n dX4_readOne_69 rfl (by decide) ?_
            refine r_iconst dX4_readOne_70 (by decide) ?_
            refine r_cv1 dX4_readOne_71 clX4_50 sf2 (by decide) (by decide) rfl (by first | decide | omega) (Nat.le_of_ble_eq_true rfl) (c_refuse) ⟨Nat.zero_le _, Nat.zero_le _⟩ (fun _ => ?_)
            refine r_zret dX4_readOne_74 rfl (by omega) ?_
            first | (exfalso; omega) | exact ⟨by show _ = some (0, (oneB n x R o M).1); unfold oneB; rw [if_neg (by first | omega | assumption), if_neg (by first | omega | assumption), if_pos (by first | omega | assumption)], rfl, by show _ = (oneB n x R o M).2; unfold oneB; rw [if_neg (by first | omega | assumption), if_neg (by first | omega | assumption), if_pos (by first | omega | assumption)]⟩
        · refine r_iload_n dX4_readOne_39 rfl ?_
          refine r_bipush dX4_readOne_40 (by decide) (by decide) ?_
          refine r_icmp_eq (tgt := 63) dX4_readOne_42 (by decide) (fun h42 => ?_) (fun h42 => ?_)
          · refine r_iload_n dX4_readOne_63 rfl ?_
            refine r_bipush dX4_readOne_64 (by decide) (by decide) ?_
            refine r_icmp_lt (tgt := 75) dX4_readOne_66 (by decide) (fun h66 => ?_) (fun h66 => ?_)
            · refine r_aload_n dX4_readOne_75 rfl (by decide) ?_
              refine r_cw0 dX4_readOne_76 clX4_37 sf2 (by decide) (by decide) rfl (by first | decide | omega) (Nat.le_of_ble_eq_true rfl) ((c_go hP.1 hP.2.1 hP.2.2.1)) ⟨Nat.zero_le _, Nat.zero_le _⟩ ?_
              refine r_iload_n dX4_readOne_79 rfl ?_
              refine r_bipush dX4_readOne_80 (by decide) (by decide) ?_
              refine r_icmp_ne (tgt := 93) dX4_readOne_82 (by decide) (fun h82 => ?_) (fun h82 => ?_)
              · refine r_iload_n dX4_readOne_93 rfl ?_
                refine r_iconst dX4_readOne_94 (by decide) ?_
                refine r_icmp_ne (tgt := 124) dX4_readOne_95 (by decide) (fun h95 => ?_) (fun h95 => ?_)
                · refine r_aload_n dX4_readOne_124 rfl (by decide) ?_
                  refine r_iload_n dX4_readOne_125 rfl ?_
                  refine r_iload_n dX4_readOne_126 rfl ?_
                  refine r_iconst dX4_readOne_127 (by decide) ?_
                  refine r_iadd dX4_readOne_128 (w32_id (by omega)) ?_
                  refine r_cv2 dX4_readOne_129 clX4_106 sf2 (by decide) (by decide) rfl (by first | decide | omega) (Nat.le_of_ble_eq_true rfl) ((h3 (by omega) _ _ hG)) ⟨Nat.zero_le _, Nat.zero_le _⟩ (fun _ => ?_)
                  refine r_zret dX4_readOne_132 rfl (by omega) ?_
                  first | (exfalso; omega) | exact ⟨by show _ = some (0, (oneB n x R o M).1); unfold oneB; rw [if_neg (by first | omega | assumption), if_neg (by first | omega | assumption), if_neg (by first | omega | assumption), if_neg (by first | omega | assumption), if_pos (by first | omega | assumption), if_pos (by first | omega | assumption)], rfl, by show _ = (oneB n x R o M).2; unfold oneB; rw [if_neg (by first | omega | assumption), if_neg (by first | omega | assumption), if_neg (by first | omega | assumption), if_neg (by first | omega | assumption), if_pos (by first | omega | assumption), if_pos (by first | omega | assumption)]⟩ | exact ⟨by show _ = some (0, (oneB n x R o M).1); unfold oneB; rw [if_neg (by first | omega | assumption), if_neg (by first | omega | assumption), if_neg (by first | omega | assumption), if_neg (by first | omega | assumption), if_pos (by first | omega | assumption), if_neg (by first | omega | assumption)]; rw [pa_0 (by assumption)], rfl, by show _ = (oneB n x R o M).2; unfold oneB; rw [if_neg (by first | omega | assumption), if_neg (by first | omega | assumption), if_neg (by first | omega | assumption), if_neg (by first | omega | assumption), if_pos (by first | omega | assumption), if_neg (by first | omega | assumption)]⟩ | exact ⟨by show _ = some (0, (oneB n x R o M).1); unfold oneB; rw [if_neg (by first | omega | assumption), if_neg (by first | omega | assumption), if_neg (by first | omega | assumption), if_neg (by first | omega | assumption), if_pos (by first | omega | assumption), if_neg (by first | omega | assumption)]; rw [pa_1 (by assumption)], rfl, by show _ = (oneB n x R o M).2; unfold oneB; rw [if_neg (by first | omega | assumption), if_neg (by first | omega | assumption), if_neg (by first | omega | assumption), if_neg (by first | omega | assumption), if_pos (by first | omega | assumption), if_neg (by first | omega | assumption)]⟩ | exact ⟨by show _ = some (0, (oneB n x R o M).1); unfold oneB; rw [if_neg (by first | omega | assumption), if_neg (by first | omega | assumption), if_neg (by first | omega | assumption), if_neg (by first | omega | assumption), if_neg (by first | omega | assumption)], rfl, by show _ = (oneB n x R o M).2; unfold oneB; rw [if_neg (by first | omega | assumption), if_neg (by first | omega | assumption), if_neg (by first | omega | assumption), if_neg (by first | omega | assumption), if_neg (by first | omega | assumption)]⟩
                · refine r_aload_n dX4_readOne_98 rfl (by decide) ?_
                  refine r_iload_n dX4_readOne_99 rfl ?_
                  refine r_iconst dX4_readOne_100 (by decide) ?_
                  refine r_iadd dX4_readOne_101 (w32_id (by omega)) ?_
                  refine r_cv1 dX4_readOne_102 clX4_74 sf2 (by decide) (by decide) rfl (by first | decide | omega) (Nat.le_of_ble_eq_true rfl) ((h0 (by omega) _ hG)) ⟨Nat.zero_le _, Nat.zero_le _⟩ (fun _ => ?_)
                  refine r_if_eq (tgt := 120) dX4_readOne_105 (by decide) (fun h105 => ?_) (fun h105 => ?_)
                  · refine r_iconst dX4_readOne_120 (by decide) ?_
                    refine r_goto (tgt := 132) dX4_readOne_121 (by decide) ?_
                    refine r_zret dX4_readOne_132 rfl (by omega) ?_
                    first | (exfalso; omega) | exact ⟨by show _ = some (0, (oneB n x R o M).1); unfold oneB; rw [if_neg (by first | omega | assumption), if_neg (by first | omega | assumption), if_neg (by first | omega | assumption), if_neg (by first | omega | assumption), if_pos (by first | omega | assumption), if_pos (by first | omega | assumption)], rfl, by show _ = (oneB n x R o M).2; unfold oneB; rw [if_neg (by first | omega | assumption), if_neg (by first | omega | assumption), if_neg (by first | omega | assumption), if_neg (by first | omega | assumption), if_pos (by first | omega | assumption), if_pos (by first | omega | assumption)]⟩ | exact ⟨by show _ = some (0, (oneB n x R o M).1); unfold oneB; rw [if_neg (by first | omega | assumption), if_neg (by first | omega | assumption), if_neg (by first | omega | assumption), if_neg (by first | omega | assumption), if_pos (by first | omega | assumption), if_neg (by first | omega | assumption)]; rw [pa_0 (by assumption)], rfl, by show _ = (oneB n x R o M).2; unfold oneB; rw [if_neg (by first | omega | assumption), if_neg (by first | omega | assumption), if_neg (by first | omega | assumption), if_neg (by first | omega | assumption), if_pos (by first | omega | assumption), if_neg (by first | omega | assumption)]⟩ | exact ⟨by show _ = some (0, (oneB n x R o M).1); unfold oneB; rw [if_neg (by first | omega | assumption), if_neg (by first | omega | assumption), if_neg (by first | omega | assumption), if_neg (by first | omega | assumption), if_pos (by first | omega | assumption), if_neg (by first | omega | assumption)]; rw [pa_1 (by assumption)], rfl, by show _ = (oneB n x R o M).2; unfold oneB; rw [if_neg (by first | omega | assumption), if_neg (by first | omega | assumption), if_neg (by first | omega | assumption), if_neg (by first | omega | assumption), if_pos (by first | omega | assumption), if_neg (by first | omega | assumption)]⟩ | exact ⟨by show _ = some (0, (oneB n x R o M).1); unfold oneB; rw [if_neg (by first | omega | assumption), if_neg (by first | omega | assumption), if_neg (by first | omega | assumption), if_neg (by first | omega | assumption), if_neg (by first | omega | assumption)], rfl, by show _ = (oneB n x R o M).2; unfold oneB; rw [if_neg (by first | omega | assumption), if_neg (by first | omega | assumption), if_neg (by first | omega | assumption), if_neg (by first | omega | assumption), if_neg (by first | omega | assumption)]⟩
                  · refine r_aload_n dX4_readOne_108 rfl (by decide) ?_
                    refine r_iconst dX4_readOne_109 (by decide) ?_
                    refine r_cv1 dX4_readOne_110 clX4_70 sf2 (by decide) (by decide) rfl (by first | decide | omega) (Nat.le_of_ble_eq_true rfl) ((c_pass hq hx (hp 0 (o + 1) 0 _ hG).1)) ⟨Nat.zero_le _, Nat.zero_le _⟩ (fun _ => ?_)
                    refine r_if_eq (tgt := 120) dX4_readOne_113 (by decide) (fun h113 => ?_) (fun h113 => ?_)
                    · refine r_iconst dX4_readOne_120 (by decide) ?_
                      refine r_goto (tgt := 132) dX4_readOne_121 (by decide) ?_
                      refine r_zret dX4_readOne_132 rfl (by omega) ?_
                      first | (exfalso; omega) | exact ⟨by show _ = some (0, (oneB n x R o M).1); unfold oneB; rw [if_neg (by first | omega | assumption), if_neg (by first | omega | assumption), if_neg (by first | omega | assumption), if_neg (by first | omega | assumption), if_pos (by first | omega | assumption), if_pos (by first | omega | assumption)], rfl, by show _ = (oneB n x R o M).2; unfold oneB; rw [if_neg (by first | omega | assumption), if_neg (by first | omega | assumption), if_neg (by first | omega | assumption), if_neg (by first | omega | assumption), if_pos (by first | omega | assumption), if_pos (by first | omega | assumption)]⟩ | exact ⟨by show _ = some (0, (oneB n x R o M).1); unfold oneB; rw [if_neg (by first | omega | assumption), if_neg (by first | omega | assumption), if_neg (by first | omega | assumption), if_neg (by first | omega | assumption), if_pos (by first | omega | assumption), if_neg (by first | omega | assumption)]; rw [pa_0 (by assumption)], rfl, by show _ = (oneB n x R o M).2; unfold oneB; rw [if_neg (by first | omega | assumption), if_neg (by first | omega | assumption), if_neg (by first | omega | assumption), if_neg (by first | omega | assumption), if_pos (by first | omega | assumption), if_neg (by first | omega | assumption)]⟩ | exact ⟨by show _ = some (0, (oneB n x R o M).1); unfold oneB; rw [if_neg (by first | omega | assumption), if_neg (by first | omega | assumption), if_neg (by first | omega | assumption), if_neg (by first | omega | assumption), if_pos (by first | omega | assumption), if_neg (by first | omega | assumption)]; rw [pa_1 (by assumption)], rfl, by show _ = (oneB n x R o M).2; unfold oneB; rw [if_neg (by first | omega | assumption), if_neg (by first | omega | assumption), if_neg (by first | omega | assumption), if_neg (by first | omega | assumption), if_pos (by first | omega | assumption), if_neg (by first | omega | assumption)]⟩ | exact ⟨by show _ = some (0, (oneB n x R o M).1); unfold oneB; rw [if_neg (by first | omega | assumption), if_neg (by first | omega | assumption), if_neg (by first | omega | assumption), if_neg (by first | omega | assumption), if_neg (by first | omega | assumption)], rfl, by show _ = (oneB n x R o M).2; unfold oneB; rw [if_neg (by first | omega | assumption), if_neg (by first | omega | assumption), if_neg (by first | omega | assumption), if_neg (by first | omega | assumption), if_neg (by first | omega | assumption)]⟩
                    · refine r_iconst dX4_readOne_116 (by decide) ?_
                      refine r_goto (tgt := 132) dX4_readOne_117 (by decide) ?_
                      refine r_zret dX4_readOne_132 rfl (by omega) ?_
                      first | (exfalso; omega) | exact ⟨by show _ = some (0, (oneB n x R o M).1); unfold oneB; rw [if_neg (by first | omega | assumption), if_neg (by first | omega | assumption), if_neg (by first | omega | assumption), if_neg (by first | omega | assumption), if_pos (by first | omega | assumption), if_pos (by first | omega | assumption)], rfl, by show _ = (oneB n x R o M).2; unfold oneB; rw [if_neg (by first | omega | assumption), if_neg (by first | omega | assumption), if_neg (by first | omega | assumption), if_neg (by first | omega | assumption), if_pos (by first | omega | assumption), if_pos (by first | omega | assumption)]⟩ | exact ⟨by show _ = some (0, (oneB n x R o M).1); unfold oneB; rw [if_neg (by first | omega | assumption), if_neg (by first | omega | assumption), if_neg (by first | omega | assumption), if_neg (by first | omega | assumption), if_pos (by first | omega | assumption), if_neg (by first | omega | assumption)]; rw [pa_0 (by assumption)], rfl, by show _ = (oneB n x R o M).2; unfold oneB; rw [if_neg (by first | omega | assumption), if_neg (by first | omega | assumption), if_neg (by first | omega | assumption), if_neg (by first | omega | assumption), if_pos (by first | omega | assumption), if_neg (by first | omega | assumption)]⟩ | exact ⟨by show _ = some (0, (oneB n x R o M).1); unfold oneB; rw [if_neg (by first | omega | assumption), if_neg (by first | omega | assumption), if_neg (by first | omega | assumption), if_neg (by first | omega | assumption), if_pos (by first | omega | assumption), if_neg (by first | omega | assumption)]; rw [pa_1 (by assumption)], rfl, by show _ = (oneB n x R o M).2; unfold oneB; rw [if_neg (by first | omega | assumption), if_neg (by first | omega | assumption), if_neg (by first | omega | assumption), if_neg (by first | omega | assumption), if_pos (by first | omega | assumption), if_neg (by first | omega | assumption)]⟩ | exact ⟨by show _ = some (0, (oneB n x R o M).1); unfold oneB; rw [if_neg (by first | omega | assumption), if_neg (by first | omega | assumption), if_neg (by first | omega | assumption), if_neg (by first | omega | assumption), if_neg (by first | omega | assumption)], rfl, by show _ = (oneB n x R o M).2; unfold oneB; rw [if_neg (by first | omega | assumption), if_neg (by first | omega | assumption), if_neg (by first | omega | assumption), if_neg (by first | omega | assumption), if_neg (by first | omega | assumption)]⟩
              · refine r_aload_n dX4_readOne_85 rfl (by decide) ?_
                refine r_iload_n dX4_readOne_86 rfl ?_
                refine r_iconst dX4_readOne_87 (by decide) ?_
                refine r_iadd dX4_readOne_88 (w32_id (by omega)) ?_
                refine r_cv1 dX4_readOne_89 clX4_103 sf2 (by decide) (by decide) rfl (by first | decide | omega) (Nat.le_of_ble_eq_true rfl) ((h4 (by omega) _ hG)) ⟨Nat.zero_le _, Nat.zero_le _⟩ (fun _ => ?_)
                refine r_zret dX4_readOne_92 rfl (by omega) ?_
                first | (exfalso; omega) | exact ⟨by show _ = some (0, (oneB n x R o M).1); unfold oneB; rw [if_neg (by first | omega | assumption), if_neg (by first | omega | assumption), if_neg (by first | omega | assumption), if_pos (by first | omega | assumption)], rfl, by show _ = (oneB n x R o M).2; unfold oneB; rw [if_neg (by first | omega | assumption), if_neg (by first | omega | assumption), if_neg (by first | omega | assumption), if_pos (by first | omega | assumption)]⟩
            · refine r_aload_n dX4_readOne_69 rfl (by decide) ?_
              refine r_iconst dX4_readOne_70 (by decide) ?_
              refine r_cv1 dX4_readOne_71 clX4_50 sf2 (by decide) (by decide) rfl (by first | decide | omega) (Nat.le_of_ble_eq_true rfl) (c_refuse) ⟨Nat.zero_le _, Nat.zero_le _⟩ (fun _ => ?_)
              refine r_zret dX4_readOne_74 rfl (by omega) ?_
              first | (exfalso; omega) | exact ⟨by show _ = some (0, (oneB n x R o M).1); unfold oneB; rw [if_neg (by first | omega | assumption), if_neg (by first | omega | assumption), if_pos (by first | omega | assumption)], rfl, by show _ = (oneB n x R o M).2; unfold oneB; rw [if_neg (by first | omega | assumption), if_neg (by first | omega | assumption), if_pos (by first | omega | assumption)]⟩
          · refine r_iload_n dX4_readOne_45 rfl ?_
            refine r_bipush dX4_readOne_46 (by decide) (by decide) ?_
            refine r_icmp_eq (tgt := 63) dX4_readOne_48 (by decide) (fun h48 => ?_) (fun h48 => ?_)
            · refine r_iload_n dX4_readOne_63 rfl ?_
              refine r_bipush dX4_readOne_64 (by decide) (by decide) ?_
              refine r_icmp_lt (tgt := 75) dX4_readOne_66 (by decide) (fun h66 => ?_) (fun h66 => ?_)
              · refine r_aload_n dX4_readOne_75 rfl (by decide) ?_
                refine r_cw0 dX4_readOne_76 clX4_37 sf2 (by decide) (by decide) rfl (by first | decide | omega) (Nat.le_of_ble_eq_true rfl) ((c_go hP.1 hP.2.1 hP.2.2.1)) ⟨Nat.zero_le _, Nat.zero_le _⟩ ?_
                refine r_iload_n dX4_readOne_79 rfl ?_
                refine r_bipush dX4_readOne_80 (by decide) (by decide) ?_
                refine r_icmp_ne (tgt := 93) dX4_readOne_82 (by decide) (fun h82 => ?_) (fun h82 => ?_)
                · refine r_iload_n dX4_readOne_93 rfl ?_
                  refine r_iconst dX4_readOne_94 (by decide) ?_
                  refine r_icmp_ne (tgt := 124) dX4_readOne_95 (by decide) (fun h95 => ?_) (fun h95 => ?_)
                  · refine r_aload_n dX4_readOne_124 rfl (by decide) ?_
                    refine r_iload_n dX4_readOne_125 rfl ?_
                    refine r_iload_n dX4_readOne_126 rfl ?_
                    refine r_iconst dX4_readOne_127 (by decide) ?_
                    refine r_iadd dX4_readOne_128 (w32_id (by omega)) ?_
                    refine r_cv2 dX4_readOne_129 clX4_106 sf2 (by decide) (by decide) rfl (by first | decide | omega) (Nat.le_of_ble_eq_true rfl) ((h3 (by omega) _ _ hG)) ⟨Nat.zero_le _, Nat.zero_le _⟩ (fun _ => ?_)
                    refine r_zret dX4_readOne_132 rfl (by omega) ?_
                    first | (exfalso; omega) | exact ⟨by show _ = some (0, (oneB n x R o M).1); unfold oneB; rw [if_neg (by first | omega | assumption), if_neg (by first | omega | assumption), if_neg (by first | omega | assumption), if_neg (by first | omega | assumption), if_pos (by first | omega | assumption), if_pos (by first | omega | assumption)], rfl, by show _ = (oneB n x R o M).2; unfold oneB; rw [if_neg (by first | omega | assumption), if_neg (by first | omega | assumption), if_neg (by first | omega | assumption), if_neg (by first | omega | assumption), if_pos (by first | omega | assumption), if_pos (by first | omega | assumption)]⟩ | exact ⟨by show _ = some (0, (oneB n x R o M).1); unfold oneB; rw [if_neg (by first | omega | assumption), if_neg (by first | omega | assumption), if_neg (by first | omega | assumption), if_neg (by first | omega | assumption), if_pos (by first | omega | assumption), if_neg (by first | omega | assumption)]; rw [pa_0 (by assumption)], rfl, by show _ = (oneB n x R o M).2; unfold oneB; rw [if_neg (by first | omega | assumption), if_neg (by first | omega | assumption), if_neg (by first | omega | assumption), if_neg (by first | omega | assumption), if_pos (by first | omega | assumption), if_neg (by first | omega | assumption)]⟩ | exact ⟨by show _ = some (0, (oneB n x R o M).1); unfold oneB; rw [if_neg (by first | omega | assumption), if_neg (by first | omega | assumption), if_neg (by first | omega | assumption), if_neg (by first | omega | assumption), if_pos (by first | omega | assumption), if_neg (by first | omega | assumption)]; rw [pa_1 (by assumption)], rfl, by show _ = (oneB n x R o M).2; unfold oneB; rw [if_neg (by first | omega | assumption), if_neg (by first | omega | assumption), if_neg (by first | omega | assumption), if_neg (by first | omega | assumption), if_pos (by first | omega | assumption), if_neg (by first | omega | assumption)]⟩ | exact ⟨by show _ = some (0, (oneB n x R o M).1); unfold oneB; rw [if_neg (by first | omega | assumption), if_neg (by first | omega | assumption), if_neg (by first | omega | assumption), if_neg (by first | omega | assumption), if_neg (by first | omega | assumption)], rfl, by show _ = (oneB n x R o M).2; unfold oneB; rw [if_neg (by first | omega | assumption), if_neg (by first | omega | assumption), if_neg (by first | omega | assumption), if_neg (by first | omega | assumption), if_neg (by first | omega | assumption)]⟩
                  · refine r_aload_n dX4_readOne_98 rfl (by decide) ?_
                    refine r_iload_n dX4_readOne_99 rfl ?_
                    refine r_iconst dX4_readOne_100 (by decide) ?_
                    refine r_iadd dX4_readOne_101 (w32_id (by omega)) ?_
                    refine r_cv1 dX4_readOne_102 clX4_74 sf2 (by decide) (by decide) rfl (by first | decide | omega) (Nat.le_of_ble_eq_true rfl) ((h0 (by omega) _ hG)) ⟨Nat.zero_le _, Nat.zero_le _⟩ (fun _ => ?_)
                    refine r_if_eq (tgt := 120) dX4_readOne_105 (by decide) (fun h105 => ?_) (fun h105 => ?_)
                    · refine r_iconst dX4_readOne_120 (by decide) ?_
                      refine r_goto (tgt := 132) dX4_readOne_121 (by decide) ?_
                      refine r_zret dX4_readOne_132 rfl (by omega) ?_
                      first | (exfalso; omega) | exact ⟨by show _ = some (0, (oneB n x R o M).1); unfold oneB; rw [if_neg (by first | omega | assumption), if_neg (by first | omega | assumption), if_neg (by first | omega | assumption), if_neg (by first | omega | assumption), if_pos (by first | omega | assumption), if_pos (by first | omega | assumption)], rfl, by show _ = (oneB n x R o M).2; unfold oneB; rw [if_neg (by first | omega | assumption), if_neg (by first | omega | assumption), if_neg (by first | omega | assumption), if_neg (by first | omega | assumption), if_pos (by first | omega | assumption), if_pos (by first | omega | assumption)]⟩ | exact ⟨by show _ = some (0, (oneB n x R o M).1); unfold oneB; rw [if_neg (by first | omega | assumption), if_neg (by first | omega | assumption), if_neg (by first | omega | assumption), if_neg (by first | omega | assumption), if_pos (by first | omega | assumption), if_neg (by first | omega | assumption)]; rw [pa_0 (by assumption)], rfl, by show _ = (oneB n x R o M).2; unfold oneB; rw [if_neg (by first | omega | assumption), if_neg (by first | omega | assumption), if_neg (by first | omega | assumption), if_neg (by first | omega | assumption), if_pos (by first | omega | assumption), if_neg (by first | omega | assumption)]⟩ | exact ⟨by show _ = some (0, (oneB n x R o M).1); unfold oneB; rw [if_neg (by first | omega | assumption), if_neg (by first | omega | assumption), if_neg (by first | omega | assumption), if_neg (by first | omega | assumption), if_pos (by first | omega | assumption), if_neg (by first | omega | assumption)]; rw [pa_1 (by assumption)], rfl, by show _ = (oneB n x R o M).2; unfold oneB; rw [if_neg (by first | omega | assumption), if_neg (by first | omega | assumption), if_neg (by first | omega | assumption), if_neg (by first | omega | assumption), if_pos (by first | omega | assumption), if_neg (by first | omega | assumption)]⟩ | exact ⟨by show _ = some (0, (oneB n x R o M).1); unfold oneB; rw [if_neg (by first | omega | assumption), if_neg (by first | omega | assumption), if_neg (by first | omega | assumption), if_neg (by first | omega | assumption), if_neg (by first | omega | assumption)], rfl, by show _ = (oneB n x R o M).2; unfold oneB; rw [if_neg (by first | omega | assumption), if_neg (by first | omega | assumption), if_neg (by first | omega | assumption), if_neg (by first | omega | assumption), if_neg (by first | omega | assumption)]⟩
                    · refine r_aload_n dX4_readOne_108 rfl (by decide) ?_
                      refine r_iconst dX4_readOne_109 (by decide) ?_
                      refine r_cv1 dX4_readOne_110 clX4_70 sf2 (by decide) (by decide) rfl (by first | decide | omega) (Nat.le_of_ble_eq_true rfl) ((c_pass hq hx (hp 0 (o + 1) 0 _ hG).1)) ⟨Nat.zero_le _, Nat.zero_le _⟩ (fun _ => ?_)
                      refine r_if_eq (tgt := 120) dX4_readOne_113 (by decide) (fun h113 => ?_) (fun h113 => ?_)
                      · refine r_iconst dX4_readOne_120 (by decide) ?_
                        refine r_goto (tgt := 132) dX4_readOne_121 (by decide) ?_
                        refine r_zret dX4_readOne_132 rfl (by omega) ?_
                        first | (exfalso; omega) | exact ⟨by show _ = some (0, (oneB n x R o M).1); unfold oneB; rw [if_neg (by first | omega | assumption), if_neg (by first | omega | assumption), if_neg (by first | omega | assumption), if_neg (by first | omega | assumption), if_pos (by first | omega | assumption), if_pos (by first | omega | assumption)], rfl, by show _ = (oneB n x R o M).2; unfold oneB; rw [if_neg (by first | omega | assumption), if_neg (by first | omega | assumption), if_neg (by first | omega | assumption), if_neg (by first | omega | assumption), if_pos (by first | omega | assumption), if_pos (by first | omega | assumption)]⟩ | exact ⟨by show _ = some (0, (oneB n x R o M).1); unfold oneB; rw [if_neg (by first | omega | assumption), if_neg (by first | omega | assumption), if_neg (by first | omega | assumption), if_neg (by first | omega | assumption), if_pos (by first | omega | assumption), if_neg (by first | omega | assumption)]; rw [pa_0 (by assumption)], rfl, by show _ = (oneB n x R o M).2; unfold oneB; rw [if_neg (by first | omega | assumption), if_neg (by first | omega | assumption), if_neg (by first | omega | assumption), if_neg (by first | omega | assumption), if_pos (by first | omega | assumption), if_neg (by first | omega | assumption)]⟩ | exact ⟨by show _ = some (0, (oneB n x R o M).1); unfold oneB; rw [if_neg (by first | omega | assumption), if_neg (by first | omega | assumption), if_neg (by first | omega | assumption), if_neg (by first | omega | assumption), if_pos (by first | omega | assumption), if_neg (by first | omega | assumption)]; rw [pa_1 (by assumption)], rfl, by show _ = (oneB n x R o M).2; unfold oneB; rw [if_neg (by first | omega | assumption), if_neg (by first | omega | assumption), if_neg (by first | omega | assumption), if_neg (by first | omega | assumption), if_pos (by first | omega | assumption), if_neg (by first | omega | assumption)]⟩ | exact ⟨by show _ = some (0, (oneB n x R o M).1); unfold oneB; rw [if_neg (by first | omega | assumption), if_neg (by first | omega | assumption), if_neg (by first | omega | assumption), if_neg (by first | omega | assumption), if_neg (by first | omega | assumption)], rfl, by show _ = (oneB n x R o M).2; unfold oneB; rw [if_neg (by first | omega | assumption), if_neg (by first | omega | assumption), if_neg (by first | omega | assumption), if_neg (by first | omega | assumption), if_neg (by first | omega | assumption)]⟩
                      · refine r_iconst dX4_readOne_116 (by decide) ?_
                        refine r_goto (tgt := 132) dX4_readOne_117 (by decide) ?_
                        refine r_zret dX4_readOne_132 rfl (by omega) ?_
                        first | (exfalso; omega) | exact ⟨by show _ = some (0, (oneB n x R o M).1); unfold oneB; rw [if_neg (by first | omega | assumption), if_neg (by first | omega | assumption), if_neg (by first | omega | assumption), if_neg (by first | omega | assumption), if_pos (by first | omega | assumption), if_pos (by first | omega | assumption)], rfl, by show _ = (oneB n x R o M).2; unfold oneB; rw [if_neg (by first | omega | assumption), if_neg (by first | omega | assumption), if_neg (by first | omega | assumption), if_neg (by first | omega | assumption), if_pos (by first | omega | assumption), if_pos (by first | omega | assumption)]⟩ | exact ⟨by show _ = some (0, (oneB n x R o M).1); unfold oneB; rw [if_neg (by first | omega | assumption), if_neg (by first | omega | assumption), if_neg (by first | omega | assumption), if_neg (by first | omega | assumption), if_pos (by first | omega | assumption), if_neg (by first | omega | assumption)]; rw [pa_0 (by assumption)], rfl, by show _ = (oneB n x R o M).2; unfold oneB; rw [if_neg (by first | omega | assumption), if_neg (by first | omega | assumption), if_neg (by first | omega | assumption), if_neg (by first | omega | assumption), if_pos (by first | omega | assumption), if_neg (by first | omega | assumption)]⟩ | exact ⟨by show _ = some (0, (oneB n x R o M).1); unfold oneB; rw [if_neg (by first | omega | assumption), if_neg (by first | omega | assumption), if_neg (by first | omega | assumption), if_neg (by first | omega | assumption), if_pos (by first | omega | assumption), if_neg (by first | omega | assumption)]; rw [pa_1 (by assumption)], rfl, by show _ = (oneB n x R o M).2; unfold oneB; rw [if_neg (by first | omega | assumption), if_neg (by first | omega | assumption), if_neg (by first | omega | assumption), if_neg (by first | omega | assumption), if_pos (by first | omega | assumption), if_neg (by first | omega | assumption)]⟩ | exact ⟨by show _ = some (0, (oneB n x R o M).1); unfold oneB; rw [if_neg (by first | omega | assumption), if_neg (by first | omega | assumption), if_neg (by first | omega | assumption), if_neg (by first | omega | assumption), if_neg (by first | omega | assumption)], rfl, by show _ = (oneB n x R o M).2; unfold oneB; rw [if_neg (by first | omega | assumption), if_neg (by first | omega | assumption), if_neg (by first | omega | assumption), if_neg (by first | omega | assumption), if_neg (by first | omega | assumption)]⟩
                · refine r_aload_n dX4_readOne_85 rfl (by decide) ?_
                  refine r_iload_n dX4_readOne_86 rfl ?_
                  refine r_iconst dX4_readOne_87 (by decide) ?_
                  refine r_iadd dX4_readOne_88 (w32_id (by omega)) ?_
                  refine r_cv1 dX4_readOne_89 clX4_103 sf2 (by decide) (by decide) rfl (by first | decide | omega) (Nat.le_of_ble_eq_true rfl) ((h4 (by omega) _ hG)) ⟨Nat.zero_le _, Nat.zero_le _⟩ (fun _ => ?_)
                  refine r_zret dX4_readOne_92 rfl (by omega) ?_
                  first | (exfalso; omega) | exact ⟨by show _ = some (0, (oneB n x R o M).1); unfold oneB; rw [if_neg (by first | omega | assumption), if_neg (by first | omega | assumption), if_neg (by first | omega | assumption), if_pos (by first | omega | assumption)], rfl, by show _ = (oneB n x R o M).2; unfold oneB; rw [if_neg (by first | omega | assumption), if_neg (by first | omega | assumption), if_neg (by first | omega | assumption), if_pos (by first | omega | assumption)]⟩
              · refine r_aload_n dX4_readOne_69 rfl (by decide) ?_
                refine r_iconst dX4_readOne_70 (by decide) ?_
                refine r_cv1 dX4_readOne_71 clX4_50 sf2 (by decide) (by decide) rfl (by first | decide | omega) (Nat.le_of_ble_eq_true rfl) (c_refuse) ⟨Nat.zero_le _, Nat.zero_le _⟩ (fun _ => ?_)
                refine r_zret dX4_readOne_74 rfl (by omega) ?_
                first | (exfalso; omega) | exact ⟨by show _ = some (0, (oneB n x R o M).1); unfold oneB; rw [if_neg (by first | omega | assumption), if_neg (by first | omega | assumption), if_pos (by first | omega | assumption)], rfl, by show _ = (oneB n x R o M).2; unfold oneB; rw [if_neg (by first | omega | assumption), if_neg (by first | omega | assumption), if_pos (by first | omega | assumption)]⟩
            · refine r_iload_n dX4_readOne_51 rfl ?_
              refine r_bipush dX4_readOne_52 (by decide) (by decide) ?_
              refine r_icmp_eq (tgt := 63) dX4_readOne_54 (by decide) (fun h54 => ?_) (fun h54 => ?_)
              · refine r_iload_n dX4_readOne_63 rfl ?_
                refine r_bipush dX4_readOne_64 (by decide) (by decide) ?_
                refine r_icmp_lt (tgt := 75) dX4_readOne_66 (by decide) (fun h66 => ?_) (fun h66 => ?_)
                · refine r_aload_n dX4_readOne_75 rfl (by decide) ?_
                  refine r_cw0 dX4_readOne_76 clX4_37 sf2 (by decide) (by decide) rfl (by first | decide | omega) (Nat.le_of_ble_eq_true rfl) ((c_go hP.1 hP.2.1 hP.2.2.1)) ⟨Nat.zero_le _, Nat.zero_le _⟩ ?_
                  refine r_iload_n dX4_readOne_79 rfl ?_
                  refine r_bipush dX4_readOne_80 (by decide) (by decide) ?_
                  refine r_icmp_ne (tgt := 93) dX4_readOne_82 (by decide) (fun h82 => ?_) (fun h82 => ?_)
                  · refine r_iload_n dX4_readOne_93 rfl ?_
                    refine r_iconst dX4_readOne_94 (by decide) ?_
                    refine r_icmp_ne (tgt := 124) dX4_readOne_95 (by decide) (fun h95 => ?_) (fun h95 => ?_)
                    · refine r_aload_n dX4_readOne_124 rfl (by decide) ?_
                      refine r_iload_n dX4_readOne_125 rfl ?_
                      refine r_iload_n dX4_readOne_126 rfl ?_
                      refine r_iconst dX4_readOne_127 (by decide) ?_
                      refine r_iadd dX4_readOne_128 (w32_id (by omega)) ?_
                      refine r_cv2 dX4_readOne_129 clX4_106 sf2 (by decide) (by decide) rfl (by first | decide | omega) (Nat.le_of_ble_eq_true rfl) ((h3 (by omega) _ _ hG)) ⟨Nat.zero_le _, Nat.zero_le _⟩ (fun _ => ?_)
                      refine r_zret dX4_readOne_132 rfl (by omega) ?_
                      first | (exfalso; omega) | exact ⟨by show _ = some (0, (oneB n x R o M).1); unfold oneB; rw [if_neg (by first | omega | assumption), if_neg (by first | omega | assumption), if_neg (by first | omega | assumption), if_neg (by first | omega | assumption), if_pos (by first | omega | assumption), if_pos (by first | omega | assumption)], rfl, by show _ = (oneB n x R o M).2; unfold oneB; rw [if_neg (by first | omega | assumption), if_neg (by first | omega | assumption), if_neg (by first | omega | assumption), if_neg (by first | omega | assumption), if_pos (by first | omega | assumption), if_pos (by first | omega | assumption)]⟩ | exact ⟨by show _ = some (0, (oneB n x R o M).1); unfold oneB; rw [if_neg (by first | omega | assumption), if_neg (by first | omega | assumption), if_neg (by first | omega | assumption), if_neg (by first | omega | assumption), if_pos (by first | omega | assumption), if_neg (by first | omega | assumption)]; rw [pa_0 (by assumption)], rfl, by show _ = (oneB n x R o M).2; unfold oneB; rw [if_neg (by first | omega | assumption), if_neg (by first | omega | assumption), if_neg (by first | omega | assumption), if_neg (by first | omega | assumption), if_pos (by first | omega | assumption), if_neg (by first | omega | assumption)]⟩ | exact ⟨by show _ = some (0, (oneB n x R o M).1); unfold oneB; rw [if_neg (by first | omega | assumption), if_neg (by first | omega | assumption), if_neg (by first | omega | assumption), if_neg (by first | omega | assumption), if_pos (by first | omega | assumption), if_neg (by first | omega | assumption)]; rw [pa_1 (by assumption)], rfl, by show _ = (oneB n x R o M).2; unfold oneB; rw [if_neg (by first | omega | assumption), if_neg (by first | omega | assumption), if_neg (by first | omega | assumption), if_neg (by first | omega | assumption), if_pos (by first | omega | assumption), if_neg (by first | omega | assumption)]⟩ | exact ⟨by show _ = some (0, (oneB n x R o M).1); unfold oneB; rw [if_neg (by first | omega | assumption), if_neg (by first | omega | assumption), if_neg (by first | omega | assumption), if_neg (by first | omega | assumption), if_neg (by first | omega | assumption)], rfl, by show _ = (oneB n x R o M).2; unfold oneB; rw [if_neg (by first | omega | assumption), if_neg (by first | omega | assumption), if_neg (by first | omega | assumption), if_neg (by first | omega | assumption), if_neg (by first | omega | assumption)]⟩
                    · refine r_aload_n dX4_readOne_98 rfl (by decide) ?_
                      refine r_iload_n dX4_readOne_99 rfl ?_
                      refine r_iconst dX4_readOne_100 (by decide) ?_
                      refine r_iadd dX4_readOne_101 (w32_id (by omega)) ?_
                      refine r_cv1 dX4_readOne_102 clX4_74 sf2 (by decide) (by decide) rfl (by first | decide | omega) (Nat.le_of_ble_eq_true rfl) ((h0 (by omega) _ hG)) ⟨Nat.zero_le _, Nat.zero_le _⟩ (fun _ => ?_)
                      refine r_if_eq (tgt := 120) dX4_readOne_105 (by decide) (fun h105 => ?_) (fun h105 => ?_)
                      · refine r_iconst dX4_readOne_120 (by decide) ?_
                        refine r_goto (tgt := 132) dX4_readOne_121 (by decide) ?_
                        refine r_zret dX4_readOne_132 rfl (by omega) ?_
                        first | (exfalso; omega) | exact ⟨by show _ = some (0, (oneB n x R o M).1); unfold oneB; rw [if_neg (by first | omega | assumption), if_neg (by first | omega | assumption), if_neg (by first | omega | assumption), if_neg (by first | omega | assumption), if_pos (by first | omega | assumption), if_pos (by first | omega | assumption)], rfl, by show _ = (oneB n x R o M).2; unfold oneB; rw [if_neg (by first | omega | assumption), if_neg (by first | omega | assumption), if_neg (by first | omega | assumption), if_neg (by first | omega | assumption), if_pos (by first | omega | assumption), if_pos (by first | omega | assumption)]⟩ | exact ⟨by show _ = some (0, (oneB n x R o M).1); unfold oneB; rw [if_neg (by first | omega | assumption), if_neg (by first | omega | assumption), if_neg (by first | omega | assumption), if_neg (by first | omega | assumption), if_pos (by first | omega | assumption), if_neg (by first | omega | assumption)]; rw [pa_0 (by assumption)], rfl, by show _ = (oneB n x R o M).2; unfold oneB; rw [if_neg (by first | omega | assumption), if_neg (by first | omega | assumption), if_neg (by first | omega | assumption), if_neg (by first | omega | assumption), if_pos (by first | omega | assumption), if_neg (by first | omega | assumption)]⟩ | exact ⟨by show _ = some (0, (oneB n x R o M).1); unfold oneB; rw [if_neg (by first | omega | assumption), if_neg (by first | omega | assumption), if_neg (by first | omega | assumption), if_neg (by first | omega | assumption), if_pos (by first | omega | assumption), if_neg (by first | omega | assumption)]; rw [pa_1 (by assumption)], rfl, by show _ = (oneB n x R o M).2; unfold oneB; rw [if_neg (by first | omega | assumption), if_neg (by first | omega | assumption), if_neg (by first | omega | assumption), if_neg (by first | omega | assumption), if_pos (by first | omega | assumption), if_neg (by first | omega | assumption)]⟩ | exact ⟨by show _ = some (0, (oneB n x R o M).1); unfold oneB; rw [if_neg (by first | omega | assumption), if_neg (by first | omega | assumption), if_neg (by first | omega | assumption), if_neg (by first | omega | assumption), if_neg (by first | omega | assumption)], rfl, by show _ = (oneB n x R o M).2; unfold oneB; rw [if_neg (by first | omega | assumption), if_neg (by first | omega | assumption), if_neg (by first | omega | assumption), if_neg (by first | omega | assumption), if_neg (by first | omega | assumption)]⟩
                      · refine r_aload_n dX4_readOne_108 rfl (by decide) ?_
                        refine r_iconst dX4_readOne_109 (by decide) ?_
                        refine r_cv1 dX4_readOne_110 clX4_70 sf2 (by decide) (by decide) rfl (by first | decide | omega) (Nat.le_of_ble_eq_true rfl) ((c_pass hq hx (hp 0 (o + 1) 0 _ hG).1)) ⟨Nat.zero_le _, Nat.zero_le _⟩ (fun _ => ?_)
                        refine r_if_eq (tgt := 120) dX4_readOne_113 (by decide) (fun h113 => ?_) (fun h113 => ?_)
                        · refine r_iconst dX4_readOne_120 (by decide) ?_
                          refine r_goto (tgt := 132) dX4_readOne_121 (by decide) ?_
                          refine r_zret dX4_readOne_132 rfl (by omega) ?_
                          first | (exfalso; omega) | exact ⟨by show _ = some (0, (oneB n x R o M).1); unfold oneB; rw [if_neg (by first | omega | assumption), if_neg (by first | omega | assumption), if_neg (by first | omega | assumption), if_neg (by first | omega | assumption), if_pos (by first | omega | assumption), if_pos (by first | omega | assumption)], rfl, by show _ = (oneB n x R o M).2; unfold oneB; rw [if_neg (by first | omega | assumption), if_neg (by first | omega | assumption), if_neg (by first | omega | assumption), if_neg (by first | omega | assumption), if_pos (by first | omega | assumption), if_pos (by first | omega | assumption)]⟩ | exact ⟨by show _ = some (0, (oneB n x R o M).1); unfold oneB; rw [if_neg (by first | omega | assumption), if_neg (by first | omega | assumption), if_neg (by first | omega | assumption), if_neg (by first | omega | assumption), if_pos (by first | omega | assumption), if_neg (by first | omega | assumption)]; rw [pa_0 (by assumption)], rfl, by show _ = (oneB n x R o M).2; unfold oneB; rw [if_neg (by first | omega | assumption), if_neg (by first | omega | assumption), if_neg (by first | omega | assumption), if_neg (by first | omega | assumption), if_pos (by first | omega | assumption), if_neg (by first | omega | assumption)]⟩ | exact ⟨by show _ = some (0, (oneB n x R o M).1); unfold oneB; rw [if_neg (by first | omega | assumption), if_neg (by first | omega | assumption), if_neg (by first | omega | assumption), if_neg (by first | omega | assumption), if_pos (by first | omega | assumption), if_neg (by first | omega | assumption)]; rw [pa_1 (by assumption)], rfl, by show _ = (oneB n x R o M).2; unfold oneB; rw [if_neg (by first | omega | assumption), if_neg (by first | omega | assumption), if_neg (by first | omega | assumption), if_neg (by first | omega | assumption), if_pos (by first | omega | assumption), if_neg (by first | omega | assumption)]⟩ | exact ⟨by show _ = some (0, (oneB n x R o M).1); unfold oneB; rw [if_neg (by first | omega | assumption), if_neg (by first | omega | assumption), if_neg (by first | omega | assumption), if_neg (by first | omega | assumption), if_neg (by first | omega | assumption)], rfl, by show _ = (oneB n x R o M).2; unfold oneB; rw [if_neg (by first | omega | assumption), if_neg (by first | omega | assumption), if_neg (by first | omega | assumption), if_neg (by first | omega | assumption), if_neg (by first | omega | assumption)]⟩
                        · refine r_iconst dX4_readOne_116 (by decide) ?_
                          refine r_goto (tgt := 132) dX4_readOne_117 (by decide) ?_
                          refine r_zret dX4_readOne_132 rfl (by omega) ?_
                          first | (exfalso; omega) | exact ⟨by show _ = some (0, (oneB n x R o M).1); unfold oneB; rw [if_neg (by first | omega | assumption), if_neg (by first | omega | assumption), if_neg (by first | omega | assumption), if_neg (by first | omega | assumption), if_pos (by first | omega | assumption), if_pos (by first | omega | assumption)], rfl, by show _ = (oneB n x R o M).2; unfold oneB; rw [if_neg (by first | omega | assumption), if_neg (by first | omega | assumption), if_neg (by first | omega | assumption), if_neg (by first | omega | assumption), if_pos (by first | omega | assumption), if_pos (by first | omega | assumption)]⟩ | exact ⟨by show _ = some (0, (oneB n x R o M).1); unfold oneB; rw [if_neg (by first | omega | assumption), if_neg (by first | omega | assumption), if_neg (by first | omega | assumption), if_neg (by first | omega | assumption), if_pos (by first | omega | assumption), if_neg (by first | omega | assumption)]; rw [pa_0 (by assumption)], rfl, by show _ = (oneB n x R o M).2; unfold oneB; rw [if_neg (by first | omega | assumption), if_neg (by first | omega | assumption), if_neg (by first | omega | assumption), if_neg (by first | omega | assumption), if_pos (by first | omega | assumption), if_neg (by first | omega | assumption)]⟩ | exact ⟨by show _ = some (0, (oneB n x R o M).1); unfold oneB; rw [if_neg (by first | omega | assumption), if_neg (by first | omega | assumption), if_neg (by first | omega | assumption), if_neg (by first | omega | assumption), if_pos (by first | omega | assumption), if_neg (by first | omega | assumption)]; rw [pa_1 (by assumption)], rfl, by show _ = (oneB n x R o M).2; unfold oneB; rw [if_neg (by first | omega | assumption), if_neg (by first | omega | assumption), if_neg (by first | omega | assumption), if_neg (by first | omega | assumption), if_pos (by first | omega | assumption), if_neg (by first | omega | assumption)]⟩ | exact ⟨by show _ = some (0, (oneB n x R o M).1); unfold oneB; rw [if_neg (by first | omega | assumption), if_neg (by first | omega | assumption), if_neg (by first | omega | assumption), if_neg (by first | omega | assumption), if_neg (by first | omega | assumption)], rfl, by show _ = (oneB n x R o M).2; unfold oneB; rw [if_neg (by first | omega | assumption), if_neg (by first | omega | assumption), if_neg (by first | omega | assumption), if_neg (by first | omega | assumption), if_neg (by first | omega | assumption)]⟩
                  · refine r_aload_n dX4_readOne_85 rfl (by decide) ?_
                    refine r_iload_n dX4_readOne_86 rfl ?_
                    refine r_iconst dX4_readOne_87 (by decide) ?_
                    refine r_iadd dX4_readOne_88 (w32_id (by omega)) ?_
                    refine r_cv1 dX4_readOne_89 clX4_103 sf2 (by decide) (by decide) rfl (by first | decide | omega) (Nat.le_of_ble_eq_true rfl) ((h4 (by omega) _ hG)) ⟨Nat.zero_le _, Nat.zero_le _⟩ (fun _ => ?_)
                    refine r_zret dX4_readOne_92 rfl (by omega) ?_
                    first | (exfalso; omega) | exact ⟨by show _ = some (0, (oneB n x R o M).1); unfold oneB; rw [if_neg (by first | omega | assumption), if_neg (by first | omega | assumption), if_neg (by first | omega | assumption), if_pos (by first | omega | assumption)], rfl, by show _ = (oneB n x R o M).2; unfold oneB; rw [if_neg (by first | omega | assumption), if_neg (by first | omega | assumption), if_neg (by first | omega | assumption), if_pos (by first | omega | assumption)]⟩
                · refine r_aload_n dX4_readOne_69 rfl (by decide) ?_
                  refine r_iconst dX4_readOne_70 (by decide) ?_
                  refine r_cv1 dX4_readOne_71 clX4_50 sf2 (by decide) (by decide) rfl (by first | decide | omega) (Nat.le_of_ble_eq_true rfl) (c_refuse) ⟨Nat.zero_le _, Nat.zero_le _⟩ (fun _ => ?_)
                  refine r_zret dX4_readOne_74 rfl (by omega) ?_
                  first | (exfalso; omega) | exact ⟨by show _ = some (0, (oneB n x R o M).1); unfold oneB; rw [if_neg (by first | omega | assumption), if_neg (by first | omega | assumption), if_pos (by first | omega | assumption)], rfl, by show _ = (oneB n x R o M).2; unfold oneB; rw [if_neg (by first | omega | assumption), if_neg (by first | omega | assumption), if_pos (by first | omega | assumption)]⟩
              · refine r_aload_n dX4_readOne_57 rfl (by decide) ?_
                refine r_iconst dX4_readOne_58 (by decide) ?_
                refine r_cv1 dX4_readOne_59 clX4_50 sf2 (by decide) (by decide) rfl (by first | decide | omega) (Nat.le_of_ble_eq_true rfl) (c_refuse) ⟨Nat.zero_le _, Nat.zero_le _⟩ (fun _ => ?_)
                refine r_zret dX4_readOne_62 rfl (by omega) ?_
                first | (exfalso; omega) | exact ⟨by show _ = some (0, (oneB n x R o M).1); unfold oneB; rw [if_neg (by first | omega | assumption), if_pos (by first | omega | assumption)], rfl, by show _ = (oneB n x R o M).2; unfold oneB; rw [if_neg (by first | omega | assumption), if_pos (by first | omega | assumption)]⟩
    · refine r_iload_n dX4_readOne_16 rfl ?_
      refine r_bipush dX4_readOne_17 (by decide) (by decide) ?_
      refine r_icmp_gt (tgt := 28) dX4_readOne_19 (by decide) (fun h19 => ?_) (fun h19 => ?_)
      · refine r_iload_n dX4_readOne_28 rfl ?_
        refine r_iconst dX4_readOne_29 (by decide) ?_
        refine r_icmp_eq (tgt := 63) dX4_readOne_30 (by decide) (fun h30 => ?_) (fun h30 => ?_)
        · refine r_iload_n dX4_readOne_63 rfl ?_
          refine r_bipush dX4_readOne_64 (by decide) (by decide) ?_
          refine r_icmp_lt (tgt := 75) dX4_readOne_66 (by decide) (fun h66 => ?_) (fun h66 => ?_)
          · refine r_aload_n dX4_readOne_75 rfl (by decide) ?_
            refine r_cw0 dX4_readOne_76 clX4_37 sf2 (by decide) (by decide) rfl (by first | decide | omega) (Nat.le_of_ble_eq_true rfl) ((c_go hP.1 hP.2.1 hP.2.2.1)) ⟨Nat.zero_le _, Nat.zero_le _⟩ ?_
            refine r_iload_n dX4_readOne_79 rfl ?_
            refine r_bipush dX4_readOne_80 (by decide) (by decide) ?_
            refine r_icmp_ne (tgt := 93) dX4_readOne_82 (by decide) (fun h82 => ?_) (fun h82 => ?_)
            · refine r_iload_n dX4_readOne_93 rfl ?_
              refine r_iconst dX4_readOne_94 (by decide) ?_
              refine r_icmp_ne (tgt := 124) dX4_readOne_95 (by decide) (fun h95 => ?_) (fun h95 => ?_)
              · refine r_aload_n dX4_readOne_124 rfl (by decide) ?_
                refine r_iload_n dX4_readOne_125 rfl ?_
                refine r_iload_n dX4_readOne_126 rfl ?_
                refine r_iconst dX4_readOne_127 (by decide) ?_
                refine r_iadd dX4_readOne_128 (w32_id (by omega)) ?_
                refine r_cv2 dX4_readOne_129 clX4_106 sf2 (by decide) (by decide) rfl (by first | decide | omega) (Nat.le_of_ble_eq_true rfl) ((h3 (by omega) _ _ hG)) ⟨Nat.zero_le _, Nat.zero_le _⟩ (fun _ => ?_)
                refine r_zret dX4_readOne_132 rfl (by omega) ?_
                first | (exfalso; omega) | exact ⟨by show _ = some (0, (oneB n x R o M).1); unfold oneB; rw [if_neg (by first | omega | assumption), if_neg (by first | omega | assumption), if_neg (by first | omega | assumption), if_neg (by first | omega | assumption), if_pos (by first | omega | assumption), if_pos (by first | omega | assumption)], rfl, by show _ = (oneB n x R o M).2; unfold oneB; rw [if_neg (by first | omega | assumption), if_neg (by first | omega | assumption), if_neg (by first | omega | assumption), if_neg (by first | omega | assumption), if_pos (by first | omega | assumption), if_pos (by first | omega | assumption)]⟩ | exact ⟨by show _ = some (0, (oneB n x R o M).1); unfold oneB; rw [if_neg (by first | omega | assumption), if_neg (by first | omega | assumption), if_neg (by first | omega | assumption), if_neg (by first | omega | assumption), if_pos (by first | omega | assumption), if_neg (by first | omega | assumption)]; rw [pa_0 (by assumption)], rfl, by show _ = (oneB n x R o M).2; unfold oneB; rw [if_neg (by first | omega | assumption), if_neg (by first | omega | assumption), if_neg (by first | omega | assumption), if_neg (by first | omega | assumption), if_pos (by first | omega | assumption), if_neg (by first | omega | assumption)]⟩ | exact ⟨by show _ = some (0, (oneB n x R o M).1); unfold oneB; rw [if_neg (by first | omega | assumption), if_neg (by first | omega | assumption), if_neg (by first | omega | assumption), if_neg (by first | omega | assumption), if_pos (by first | omega | assumption), if_neg (by first | omega | assumption)]; rw [pa_1 (by assumption)], rfl, by show _ = (oneB n x R o M).2; unfold oneB; rw [if_neg (by first | omega | assumption), if_neg (by first | omega | assumption), if_neg (by first | omega | assumption), if_neg (by first | omega | assumption), if_pos (by first | omega | assumption), if_neg (by first | omega | assumption)]⟩ | exact ⟨by show _ = some (0, (oneB n x R o M).1); unfold oneB; rw [if_neg (by first | omega | assumption), if_neg (by first | omega | assumption), if_neg (by first | omega | assumption), if_neg (by first | omega | assumption), if_neg (by first | omega | assumption)], rfl, by show _ = (oneB n x R o M).2; unfold oneB; rw [if_neg (by first | omega | assumption), if_neg (by first | omega | assumption), if_neg (by first | omega | assumption), if_neg (by first | omega | assumption), if_neg (by first | omega | assumption)]⟩
              · refine r_aload_n dX4_readOne_98 rfl (by decide) ?_
                refine r_iload_n dX4_readOne_99 rfl ?_
                refine r_iconst dX4_readOne_100 (by decide) ?_
                refine r_iadd dX4_readOne_101 (w32_id (by omega)) ?_
                refine r_cv1 dX4_readOne_102 clX4_74 sf2 (by decide) (by decide) rfl (by first | decide | omega) (Nat.le_of_ble_eq_true rfl) ((h0 (by omega) _ hG)) ⟨Nat.zero_le _, Nat.zero_le _⟩ (fun _ => ?_)
                refine r_if_eq (tgt := 120) dX4_readOne_105 (by decide) (fun h105 => ?_) (fun h105 => ?_)
                · refine r_iconst dX4_readOne_120 (by decide) ?_
                  refine r_goto (tgt := 132) dX4_readOne_121 (by decide) ?_
                  refine r_zret dX4_readOne_132 rfl (by omega) ?_
                  first | (exfalso; omega) | exact ⟨by show _ = some (0, (oneB n x R o M).1); unfold oneB; rw [if_neg (by first | omega | assumption), if_neg (by first | omega | assumption), if_neg (by first | omega | assumption), if_neg (by first | omega | assumption), if_pos (by first | omega | assumption), if_pos (by first | omega | assumption)], rfl, by show _ = (oneB n x R o M).2; unfold oneB; rw [if_neg (by first | omega | assumption), if_neg (by first | omega | assumption), if_neg (by first | omega | assumption), if_neg (by first | omega | assumption), if_pos (by first | omega | assumption), if_pos (by first | omega | assumption)]⟩ | exact ⟨by show _ = some (0, (oneB n x R o M).1); unfold oneB; rw [if_neg (by first | omega | assumption), if_neg (by first | omega | assumption), if_neg (by first | omega | assumption), if_neg (by first | omega | assumption), if_pos (by first | omega | assumption), if_neg (by first | omega | assumption)]; rw [pa_0 (by assumption)], rfl, by show _ = (oneB n x R o M).2; unfold oneB; rw [if_neg (by first | omega | assumption), if_neg (by first | omega | assumption), if_neg (by first | omega | assumption), if_neg (by first | omega | assumption), if_pos (by first | omega | assumption), if_neg (by first | omega | assumption)]⟩ | exact ⟨by show _ = some (0, (oneB n x R o M).1); unfold oneB; rw [if_neg (by first | omega | assumption), if_neg (by first | omega | assumption), if_neg (by first | omega | assumption), if_neg (by first | omega | assumption), if_pos (by first | omega | assumption), if_neg (by first | omega | assumption)]; rw [pa_1 (by assumption)], rfl, by show _ = (oneB n x R o M).2; unfold oneB; rw [if_neg (by first | omega | assumption), if_neg (by first | omega | assumption), if_neg (by first | omega | assumption), if_neg (by first | omega | assumption), if_pos (by first | omega | assumption), if_neg (by first | omega | assumption)]⟩ | exact ⟨by show _ = some (0, (oneB n x R o M).1); unfold oneB; rw [if_neg (by first | omega | assumption), if_neg (by first | omega | assumption), if_neg (by first | omega | assumption), if_neg (by first | omega | assumption), if_neg (by first | omega | assumption)], rfl, by show _ = (oneB n x R o M).2; unfold oneB; rw [if_neg (by first | omega | assumption), if_neg (by first | omega | assumption), if_neg (by first | omega | assumption), if_neg (by first | omega | assumption), if_neg (by first | omega | assumption)]⟩
                · refine r_aload_n dX4_readOne_108 rfl (by decide) ?_
                  refine r_iconst dX4_readOne_109 (by decide) ?_
                  refine r_cv1 dX4_readOne_110 clX4_70 sf2 (by decide) (by decide) rfl (by first | decide | omega) (Nat.le_of_ble_eq_true rfl) ((c_pass hq hx (hp 0 (o + 1) 0 _ hG).1)) ⟨Nat.zero_le _, Nat.zero_le _⟩ (fun _ => ?_)
                  refine r_if_eq (tgt := 120) dX4_readOne_113 (by decide) (fun h113 => ?_) (fun h113 => ?_)
                  · refine r_iconst dX4_readOne_120 (by decide) ?_
                    refine r_goto (tgt := 132) dX4_readOne_121 (by decide) ?_
                    refine r_zret dX4_readOne_132 rfl (by omega) ?_
                    first | (exfalso; omega) | exact ⟨by show _ = some (0, (oneB n x R o M).1); unfold oneB; rw [if_neg (by first | omega | assumption), if_neg (by first | omega | assumption), if_neg (by first | omega | assumption), if_neg (by first | omega | assumption), if_pos (by first | omega | assumption), if_pos (by first | omega | assumption)], rfl, by show _ = (oneB n x R o M).2; unfold oneB; rw [if_neg (by first | omega | assumption), if_neg (by first | omega | assumption), if_neg (by first | omega | assumption), if_neg (by first | omega | assumption), if_pos (by first | omega | assumption), if_pos (by first | omega | assumption)]⟩ | exact ⟨by show _ = some (0, (oneB n x R o M).1); unfold oneB; rw [if_neg (by first | omega | assumption), if_neg (by first | omega | assumption), if_neg (by first | omega | assumption), if_neg (by first | omega | assumption), if_pos (by first | omega | assumption), if_neg (by first | omega | assumption)]; rw [pa_0 (by assumption)], rfl, by show _ = (oneB n x R o M).2; unfold oneB; rw [if_neg (by first | omega | assumption), if_neg (by first | omega | assumption), if_neg (by first | omega | assumption), if_neg (by first | omega | assumption), if_pos (by first | omega | assumption), if_neg (by first | omega | assumption)]⟩ | exact ⟨by show _ = some (0, (oneB n x R o M).1); unfold oneB; rw [if_neg (by first | omega | assumption), if_neg (by first | omega | assumption), if_neg (by first | omega | assumption), if_neg (by first | omega | assumption), if_pos (by first | omega | assumption), if_neg (by first | omega | assumption)]; rw [pa_1 (by assumption)], rfl, by show _ = (oneB n x R o M).2; unfold oneB; rw [if_neg (by first | omega | assumption), if_neg (by first | omega | assumption), if_neg (by first | omega | assumption), if_neg (by first | omega | assumption), if_pos (by first | omega | assumption), if_neg (by first | omega | assumption)]⟩ | exact ⟨by show _ = some (0, (oneB n x R o M).1); unfold oneB; rw [if_neg (by first | omega | assumption), if_neg (by first | omega | assumption), if_neg (by first | omega | assumption), if_neg (by first | omega | assumption), if_neg (by first | omega | assumption)], rfl, by show _ = (oneB n x R o M).2; unfold oneB; rw [if_neg (by first | omega | assumption), if_neg (by first | omega | assumption), if_neg (by first | omega | assumption), if_neg (by first | omega | assumption), if_neg (by first | omega | assumption)]⟩
                  · refine r_iconst dX4_readOne_116 (by decide) ?_
                    refine r_goto (tgt := 132) dX4_readOne_117 (by decide) ?_
                    refine r_zret dX4_readOne_132 rfl (by omega) ?_
                    first | (exfalso; omega) | exact ⟨by show _ = some (0, (oneB n x R o M).1); unfold oneB; rw [if_neg (by first | omega | assumption), if_neg (by first | omega | assumption), if_neg (by first | omega | assumption), if_neg (by first | omega | assumption), if_pos (by first | omega | assumption), if_pos (by first | omega | assumption)], rfl, by show _ = (oneB n x R o M).2; unfold oneB; rw [if_neg (by first | omega | assumption), if_neg (by first | omega | assumption), if_neg (by first | omega | assumption), if_neg (by first | omega | assumption), if_pos (by first | omega | assumption), if_pos (by first | omega | assumption)]⟩ | exact ⟨by show _ = some (0, (oneB n x R o M).1); unfold oneB; rw [if_neg (by first | omega | assumption), if_neg (by first | omega | assumption), if_neg (by first | omega | assumption), if_neg (by first | omega | assumption), if_pos (by first | omega | assumption), if_neg (by first | omega | assumption)]; rw [pa_0 (by assumption)], rfl, by show _ = (oneB n x R o M).2; unfold oneB; rw [if_neg (by first | omega | assumption), if_neg (by first | omega | assumption), if_neg (by first | omega | assumption), if_neg (by first | omega | assumption), if_pos (by first | omega | assumption), if_neg (by first | omega | assumption)]⟩ | exact ⟨by show _ = some (0, (oneB n x R o M).1); unfold oneB; rw [if_neg (by first | omega | assumption), if_neg (by first | omega | assumption), if_neg (by first | omega | assumption), if_neg (by first | omega | assumption), if_pos (by first | omega | assumption), if_neg (by first | omega | assumption)]; rw [pa_1 (by assumption)], rfl, by show _ = (oneB n x R o M).2; unfold oneB; rw [if_neg (by first | omega | assumption), if_neg (by first | omega | assumption), if_neg (by first | omega | assumption), if_neg (by first | omega | assumption), if_pos (by first | omega | assumption), if_neg (by first | omega | assumption)]⟩ | exact ⟨by show _ = some (0, (oneB n x R o M).1); unfold oneB; rw [if_neg (by first | omega | assumption), if_neg (by first | omega | assumption), if_neg (by first | omega | assumption), if_neg (by first | omega | assumption), if_neg (by first | omega | assumption)], rfl, by show _ = (oneB n x R o M).2; unfold oneB; rw [if_neg (by first | omega | assumption), if_neg (by first | omega | assumption), if_neg (by first | omega | assumption), if_neg (by first | omega | assumption), if_neg (by first | omega | assumption)]⟩
            · refine r_aload_n dX4_readOne_85 rfl (by decide) ?_
              refine r_iload_n dX4_readOne_86 rfl ?_
              refine r_iconst dX4_readOne_87 (by decide) ?_
              refine r_iadd dX4_readOne_88 (w32_id (by omega)) ?_
              refine r_cv1 dX4_readOne_89 clX4_103 sf2 (by decide) (by decide) rfl (by first | decide | omega) (Nat.le_of_ble_eq_true rfl) ((h4 (by omega) _ hG)) ⟨Nat.zero_le _, Nat.zero_le _⟩ (fun _ => ?_)
              refine r_zret dX4_readOne_92 rfl (by omega) ?_
              first | (exfalso; omega) | exact ⟨by show _ = some (0, (oneB n x R o M).1); unfold oneB; rw [if_neg (by first | omega | assumption), if_neg (by first | omega | assumption), if_neg (by first | omega | assumption), if_pos (by first | omega | assumption)], rfl, by show _ = (oneB n x R o M).2; unfold oneB; rw [if_neg (by first | omega | assumption), if_neg (by first | omega | assumption), if_neg (by first | omega | assumption), if_pos (by first | omega | assumption)]⟩
          · refine r_aload_n dX4_readOne_69 rfl (by decide) ?_
            refine r_iconst dX4_readOne_70 (by decide) ?_
            refine r_cv1 dX4_readOne_71 clX4_50 sf2 (by decide) (by decide) rfl (by first | decide | omega) (Nat.le_of_ble_eq_true rfl) (c_refuse) ⟨Nat.zero_le _, Nat.zero_le _⟩ (fun _ => ?_)
            refine r_zret dX4_readOne_74 rfl (by omega) ?_
            first | (exfalso; omega) | exact ⟨by show _ = some (0, (oneB n x R o M).1); unfold oneB; rw [if_neg (by first | omega | assumption), if_neg (by first | omega | assumption), if_pos (by first | omega | assumption)], rfl, by show _ = (oneB n x R o M).2; unfold oneB; rw [if_neg (by first | omega | assumption), if_neg (by first | omega | assumption), if_pos (by first | omega | assumption)]⟩
        · refine r_iload_n dX4_readOne_33 rfl ?_
          refine r_bipush dX4_readOne_34 (by decide) (by decide) ?_
          refine r_icmp_eq (tgt := 63) dX4_readOne_36 (by decide) (fun h36 => ?_) (fun h36 => ?_)
          · refine r_iload_n dX4_readOne_63 rfl ?_
            refine r_bipush dX4_readOne_64 (by decide) (by decide) ?_
            refine r_icmp_lt (tgt := 75) dX4_readOne_66 (by decide) (fun h66 => ?_) (fun h66 => ?_)
            · refine r_aload_n dX4_readOne_75 rfl (by decide) ?_
              refine r_cw0 dX4_readOne_76 clX4_37 sf2 (by decide) (by decide) rfl (by first | decide | omega) (Nat.le_of_ble_eq_true rfl) ((c_go hP.1 hP.2.1 hP.2.2.1)) ⟨Nat.zero_le _, Nat.zero_le _⟩ ?_
              refine r_iload_n dX4_readOne_79 rfl ?_
              refine r_bipush dX4_readOne_80 (by decide) (by decide) ?_
              refine r_icmp_ne (tgt := 93) dX4_readOne_82 (by decide) (fun h82 => ?_) (fun h82 => ?_)
              · refine r_iload_n dX4_readOne_93 rfl ?_
                refine r_iconst dX4_readOne_94 (by decide) ?_
                refine r_icmp_ne (tgt := 124) dX4_readOne_95 (by decide) (fun h95 => ?_) (fun h95 => ?_)
                · refine r_aload_n dX4_readOne_124 rfl (by decide) ?_
                  refine r_iload_n dX4_readOne_125 rfl ?_
                  refine r_iload_n dX4_readOne_126 rfl ?_
                  refine r_iconst dX4_readOne_127 (by decide) ?_
                  refine r_iadd dX4_readOne_128 (w32_id (by omega)) ?_
                  refine r_cv2 dX4_readOne_129 clX4_106 sf2 (by decide) (by decide) rfl (by first | decide | omega) (Nat.le_of_ble_eq_true rfl) ((h3 (by omega) _ _ hG)) ⟨Nat.zero_le _, Nat.zero_le _⟩ (fun _ => ?_)
                  refine r_zret dX4_readOne_132 rfl (by omega) ?_
                  first | (exfalso; omega) | exact ⟨by show _ = some (0, (oneB n x R o M).1); unfold oneB; rw [if_neg (by first | omega | assumption), if_neg (by first | omega | assumption), if_neg (by first | omega | assumption), if_neg (by first | omega | assumption), if_pos (by first | omega | assumption), if_pos (by first | omega | assumption)], rfl, by show _ = (oneB n x R o M).2; unfold oneB; rw [if_neg (by first | omega | assumption), if_neg (by first | omega | assumption), if_neg (by first | omega | assumption), if_neg (by first | omega | assumption), if_pos (by first | omega | assumption), if_pos (by first | omega | assumption)]⟩ | exact ⟨by show _ = some (0, (oneB n x R o M).1); unfold oneB; rw [if_neg (by first | omega | assumption), if_neg (by first | omega | assumption), if_neg (by first | omega | assumption), if_neg (by first | omega | assumption), if_pos (by first | omega | assumption), if_neg (by first | omega | assumption)]; rw [pa_0 (by assumption)], rfl, by show _ = (oneB n x R o M).2; unfold oneB; rw [if_neg (by first | omega | assumption), if_neg (by first | omega | assumption), if_neg (by first | omega | assumption), if_neg (by first | omega | assumption), if_pos (by first | omega | assumption), if_neg (by first | omega | assumption)]⟩ | exact ⟨by show _ = some (0, (oneB n x R o M).1); unfold oneB; rw [if_neg (by first | omega | assumption), if_neg (by first | omega | assumption), if_neg (by first | omega | assumption), if_neg (by first | omega | assumption), if_pos (by first | omega | assumption), if_neg (by first | omega | assumption)]; rw [pa_1 (by assumption)], rfl, by show _ = (oneB n x R o M).2; unfold oneB; rw [if_neg (by first | omega | assumption), if_neg (by first | omega | assumption), if_neg (by first | omega | assumption), if_neg (by first | omega | assumption), if_pos (by first | omega | assumption), if_neg (by first | omega | assumption)]⟩ | exact ⟨by show _ = some (0, (oneB n x R o M).1); unfold oneB; rw [if_neg (by first | omega | assumption), if_neg (by first | omega | assumption), if_neg (by first | omega | assumption), if_neg (by first | omega | assumption), if_neg (by first | omega | assumption)], rfl, by show _ = (oneB n x R o M).2; unfold oneB; rw [if_neg (by first | omega | assumption), if_neg (by first | omega | assumption), if_neg (by first | omega | assumption), if_neg (by first | omega | assumption), if_neg (by first | omega | assumption)]⟩
                · refine r_aload_n dX4_readOne_98 rfl (by decide) ?_
                  refine r_iload_n dX4_readOne_99 rfl ?_
                  refine r_iconst dX4_readOne_100 (by decide) ?_
                  refine r_iadd dX4_readOne_101 (w32_id (by omega)) ?_
                  refine r_cv1 dX4_readOne_102 clX4_74 sf2 (by decide) (by decide) rfl (by first | decide | omega) (Nat.le_of_ble_eq_true rfl) ((h0 (by omega) _ hG)) ⟨Nat.zero_le _, Nat.zero_le _⟩ (fun _ => ?_)
                  refine r_if_eq (tgt := 120) dX4_readOne_105 (by decide) (fun h105 => ?_) (fun h105 => ?_)
                  · refine r_iconst dX4_readOne_120 (by decide) ?_
                    refine r_goto (tgt := 132) dX4_readOne_121 (by decide) ?_
                    refine r_zret dX4_readOne_132 rfl (by omega) ?_
                    first | (exfalso; omega) | exact ⟨by show _ = some (0, (oneB n x R o M).1); unfold oneB; rw [if_neg (by first | omega | assumption), if_neg (by first | omega | assumption), if_neg (by first | omega | assumption), if_neg (by first | omega | assumption), if_pos (by first | omega | assumption), if_pos (by first | omega | assumption)], rfl, by show _ = (oneB n x R o M).2; unfold oneB; rw [if_neg (by first | omega | assumption), if_neg (by first | omega | assumption), if_neg (by first | omega | assumption), if_neg (by first | omega | assumption), if_pos (by first | omega | assumption), if_pos (by first | omega | assumption)]⟩ | exact ⟨by show _ = some (0, (oneB n x R o M).1); unfold oneB; rw [if_neg (by first | omega | assumption), if_neg (by first | omega | assumption), if_neg (by first | omega | assumption), if_neg (by first | omega | assumption), if_pos (by first | omega | assumption), if_neg (by first | omega | assumption)]; rw [pa_0 (by assumption)], rfl, by show _ = (oneB n x R o M).2; unfold oneB; rw [if_neg (by first | omega | assumption), if_neg (by first | omega | assumption), if_neg (by first | omega | assumption), if_neg (by first | omega | assumption), if_pos (by first | omega | assumption), if_neg (by first | omega | assumption)]⟩ | exact ⟨by show _ = some (0, (oneB n x R o M).1); unfold oneB; rw [if_neg (by first | omega | assumption), if_neg (by first | omega | assumption), if_neg (by first | omega | assumption), if_neg (by first | omega | assumption), if_pos (by first | omega | assumption), if_neg (by first | omega | assumption)]; rw [pa_1 (by assumption)], rfl, by show _ = (oneB n x R o M).2; unfold oneB; rw [if_neg (by first | omega | assumption), if_neg (by first | omega | assumption), if_neg (by first | omega | assumption), if_neg (by first | omega | assumption), if_pos (by first | omega | assumption), if_neg (by first | omega | assumption)]⟩ | exact ⟨by show _ = some (0, (oneB n x R o M).1); unfold oneB; rw [if_neg (by first | omega | assumption), if_neg (by first | omega | assumption), if_neg (by first | omega | assumption), if_neg (by first | omega | assumption), if_neg (by first | omega | assumption)], rfl, by show _ = (oneB n x R o M).2; unfold oneB; rw [if_neg (by first | omega | assumption), if_neg (by first | omega | assumption), if_neg (by first | omega | assumption), if_neg (by first | omega | assumption), if_neg (by first | omega | assumption)]⟩
                  · refine r_aload_n dX4_readOne_108 rfl (by decide) ?_
                    refine r_iconst dX4_readOne_109 (by decide) ?_
                    refine r_cv1 dX4_readOne_110 clX4_70 sf2 (by decide) (by decide) rfl (by first | decide | omega) (Nat.le_of_ble_eq_true rfl) ((c_pass hq hx (hp 0 (o + 1) 0 _ hG).1)) ⟨Nat.zero_le _, Nat.zero_le _⟩ (fun _ => ?_)
                    refine r_if_eq (tgt := 120) dX4_readOne_113 (by decide) (fun h113 => ?_) (fun h113 => ?_)
                    · refine r_iconst dX4_readOne_120 (by decide) ?_
                      refine r_goto (tgt := 132) dX4_readOne_121 (by decide) ?_
                      refine r_zret dX4_readOne_132 rfl (by omega) ?_
                      first | (exfalso; omega) | exact ⟨by show _ = some (0, (oneB n x R o M).1); unfold oneB; rw [if_neg (by first | omega | assumption), if_neg (by first | omega | assumption), if_neg (by first | omega | assumption), if_neg (by first | omega | assumption), if_pos (by first | omega | assumption), if_pos (by first | omega | assumption)], rfl, by show _ = (oneB n x R o M).2; unfold oneB; rw [if_neg (by first | omega | assumption), if_neg (by first | omega | assumption), if_neg (by first | omega | assumption), if_neg (by first | omega | assumption), if_pos (by first | omega | assumption), if_pos (by first | omega | assumption)]⟩ | exact ⟨by show _ = some (0, (oneB n x R o M).1); unfold oneB; rw [if_neg (by first | omega | assumption), if_neg (by first | omega | assumption), if_neg (by first | omega | assumption), if_neg (by first | omega | assumption), if_pos (by first | omega | assumption), if_neg (by first | omega | assumption)]; rw [pa_0 (by assumption)], rfl, by show _ = (oneB n x R o M).2; unfold oneB; rw [if_neg (by first | omega | assumption), if_neg (by first | omega | assumption), if_neg (by first | omega | assumption), if_neg (by first | omega | assumption), if_pos (by first | omega | assumption), if_neg (by first | omega | assumption)]⟩ | exact ⟨by show _ = some (0, (oneB n x R o M).1); unfold oneB; rw [if_neg (by first | omega | assumption), if_neg (by first | omega | assumption), if_neg (by first | omega | assumption), if_neg (by first | omega | assumption), if_pos (by first | omega | assumption), if_neg (by first | omega | assumption)]; rw [pa_1 (by assumption)], rfl, by show _ = (oneB n x R o M).2; unfold oneB; rw [if_neg (by first | omega | assumption), if_neg (by first | omega | assumption), if_neg (by first | omega | assumption), if_neg (by first | omega | assumption), if_pos (by first | omega | assumption), if_neg (by first | omega | assumption)]⟩ | exact ⟨by show _ = some (0, (oneB n x R o M).1); unfold oneB; rw [if_neg (by first | omega | assumption), if_neg (by first | omega | assumption), if_neg (by first | omega | assumption), if_neg (by first | omega | assumption), if_neg (by first | omega | assumption)], rfl, by show _ = (oneB n x R o M).2; unfold oneB; rw [if_neg (by first | omega | assumption), if_neg (by first | omega | assumption), if_neg (by first | omega | assumption), if_neg (by first | omega | assumption), if_neg (by first | omega | assumption)]⟩
                    · refine r_iconst dX4_readOne_116 (by decide) ?_
                      refine r_goto (tgt := 132) dX4_readOne_117 (by decide) ?_
                      refine r_zret dX4_readOne_132 rfl (by omega) ?_
                      first | (exfalso; omega) | exact ⟨by show _ = some (0, (oneB n x R o M).1); unfold oneB; rw [if_neg (by first | omega | assumption), if_neg (by first | omega | assumption), if_neg (by first | omega | assumption), if_neg (by first | omega | assumption), if_pos (by first | omega | assumption), if_pos (by first | omega | assumption)], rfl, by show _ = (oneB n x R o M).2; unfold oneB; rw [if_neg (by first | omega | assumption), if_neg (by first | omega | assumption), if_neg (by first | omega | assumption), if_neg (by first | omega | assumption), if_pos (by first | omega | assumption), if_pos (by first | omega | assumption)]⟩ | exact ⟨by show _ = some (0, (oneB n x R o M).1); unfold oneB; rw [if_neg (by first | omega | assumption), if_neg (by first | omega | assumption), if_neg (by first | omega | assumption), if_neg (by first | omega | assumption), if_pos (by first | omega | assumption), if_neg (by first | omega | assumption)]; rw [pa_0 (by assumption)], rfl, by show _ = (oneB n x R o M).2; unfold oneB; rw [if_neg (by first | omega | assumption), if_neg (by first | omega | assumption), if_neg (by first | omega | assumption), if_neg (by first | omega | assumption), if_pos (by first | omega | assumption), if_neg (by first | omega | assumption)]⟩ | exact ⟨by show _ = some (0, (oneB n x R o M).1); unfold oneB; rw [if_neg (by first | omega | assumption), if_neg (by first | omega | assumption), if_neg (by first | omega | assumption), if_neg (by first | omega | assumption), if_pos (by first | omega | assumption), if_neg (by first | omega | assumption)]; rw [pa_1 (by assumption)], rfl, by show _ = (oneB n x R o M).2; unfold oneB; rw [if_neg (by first | omega | assumption), if_neg (by first | omega | assumption), if_neg (by first | omega | assumption), if_neg (by first | omega | assumption), if_pos (by first | omega | assumption), if_neg (by first | omega | assumption)]⟩ | exact ⟨by show _ = some (0, (oneB n x R o M).1); unfold oneB; rw [if_neg (by first | omega | assumption), if_neg (by first | omega | assumption), if_neg (by first | omega | assumption), if_neg (by first | omega | assumption), if_neg (by first | omega | assumption)], rfl, by show _ = (oneB n x R o M).2; unfold oneB; rw [if_neg (by first | omega | assumption), if_neg (by first | omega | assumption), if_neg (by first | omega | assumption), if_neg (by first | omega | assumption), if_neg (by first | omega | assumption)]⟩
              · refine r_aload_n dX4_readOne_85 rfl (by decide) ?_
                refine r_iload_n dX4_readOne_86 rfl ?_
                refine r_iconst dX4_readOne_87 (by decide) ?_
                refine r_iadd dX4_readOne_88 (w32_id (by omega)) ?_
                refine r_cv1 dX4_readOne_89 clX4_103 sf2 (by decide) (by decide) rfl (by first | decide | omega) (Nat.le_of_ble_eq_true rfl) ((h4 (by omega) _ hG)) ⟨Nat.zero_le _, Nat.zero_le _⟩ (fun _ => ?_)
                refine r_zret dX4_readOne_92 rfl (by omega) ?_
                first | (exfalso; omega) | exact ⟨by show _ = some (0, (oneB n x R o M).1); unfold oneB; rw [if_neg (by first | omega | assumption), if_neg (by first | omega | assumption), if_neg (by first | omega | assumption), if_pos (by first | omega | assumption)], rfl, by show _ = (oneB n x R o M).2; unfold oneB; rw [if_neg (by first | omega | assumption), if_neg (by first | omega | assumption), if_neg (by first | omega | assumption), if_pos (by first | omega | assumption)]⟩
            · refine r_aload_n dX4_readOne_69 rfl (by decide) ?_
              refine r_iconst dX4_readOne_70 (by decide) ?_
              refine r_cv1 dX4_readOne_71 clX4_50 sf2 (by decide) (by decide) rfl (by first | decide | omega) (Nat.le_of_ble_eq_true rfl) (c_refuse) ⟨Nat.zero_le _, Nat.zero_le _⟩ (fun _ => ?_)
              refine r_zret dX4_readOne_74 rfl (by omega) ?_
              first | (exfalso; omega) | exact ⟨by show _ = some (0, (oneB n x R o M).1); unfold oneB; rw [if_neg (by first | omega | assumption), if_neg (by first | omega | assumption), if_pos (by first | omega | assumption)], rfl, by show _ = (oneB n x R o M).2; unfold oneB; rw [if_neg (by first | omega | assumption), if_neg (by first | omega | assumption), if_pos (by first | omega | assumption)]⟩
          · refine r_iload_n dX4_readOne_39 rfl ?_
            refine r_bipush dX4_readOne_40 (by decide) (by decide) ?_
            refine r_icmp_eq (tgt := 63) dX4_readOne_42 (by decide) (fun h42 => ?_) (fun h42 => ?_)
            · refine r_iload_n dX4_readOne_63 rfl ?_
              refine r_bipush dX4_readOne_64 (by decide) (by decide) ?_
              refine r_icmp_lt (tgt := 75) dX4_readOne_66 (by decide) (fun h66 => ?_) (fun h66 => ?_)
              · refine r_aload_n dX4_readOne_75 rfl (by decide) ?_
                refine r_cw0 dX4_readOne_76 clX4_37 sf2 (by decide) (by decide) rfl (by first | decide | omega) (Nat.le_of_ble_eq_true rfl) ((c_go hP.1 hP.2.1 hP.2.2.1)) ⟨Nat.zero_le _, Nat.zero_le _⟩ ?_
                refine r_iload_n dX4_readOne_79 rfl ?_
                refine r_bipush dX4_readOne_80 (by decide) (by decide) ?_
                refine r_icmp_ne (tgt := 93) dX4_readOne_82 (by decide) (fun h82 => ?_) (fun h82 => ?_)
                · refine r_iload_n dX4_readOne_93 rfl ?_
                  refine r_iconst dX4_readOne_94 (by decide) ?_
                  refine r_icmp_ne (tgt := 124) dX4_readOne_95 (by decide) (fun h95 => ?_) (fun h95 => ?_)
                  · refine r_aload_n dX4_readOne_124 rfl (by decide) ?_
                    refine r_iload_n dX4_readOne_125 rfl ?_
                    refine r_iload_n dX4_readOne_126 rfl ?_
                    refine r_iconst dX4_readOne_127 (by decide) ?_
                    refine r_iadd dX4_readOne_128 (w32_id (by omega)) ?_
                    refine r_cv2 dX4_readOne_129 clX4_106 sf2 (by decide) (by decide) rfl (by first | decide | omega) (Nat.le_of_ble_eq_true rfl) ((h3 (by omega) _ _ hG)) ⟨Nat.zero_le _, Nat.zero_le _⟩ (fun _ => ?_)
                    refine r_zret dX4_readOne_132 rfl (by omega) ?_
                    first | (exfalso; omega) | exact ⟨by show _ = some (0, (oneB n x R o M).1); unfold oneB; rw [if_neg (by first | omega | assumption), if_neg (by first | omega | assumption), if_neg (by first | omega | assumption), if_neg (by first | omega | assumption), if_pos (by first | omega | assumption), if_pos (by first | omega | assumption)], rfl, by show _ = (oneB n x R o M).2; unfold oneB; rw [if_neg (by first | omega | assumption), if_neg (by first | omega | assumption), if_neg (by first | omega | assumption), if_neg (by first | omega | assumption), if_pos (by first | omega | assumption), if_pos (by first | omega | assumption)]⟩ | exact ⟨by show _ = some (0, (oneB n x R o M).1); unfold oneB; rw [if_neg (by first | omega | assumption), if_neg (by first | omega | assumption), if_neg (by first | omega | assumption), if_neg (by first | omega | assumption), if_pos (by first | omega | assumption), if_neg (by first | omega | assumption)]; rw [pa_0 (by assumption)], rfl, by show _ = (oneB n x R o M).2; unfold oneB; rw [if_neg (by first | omega | assumption), if_neg (by first | omega | assumption), if_neg (by first | omega | assumption), if_neg (by first | omega | assumption), if_pos (by first | omega | assumption), if_neg (by first | omega | assumption)]⟩ | exact ⟨by show _ = some (0, (oneB n x R o M).1); unfold oneB; rw [if_neg (by first | omega | assumption), if_neg (by first | omega | assumption), if_neg (by first | omega | assumption), if_neg (by first | omega | assumption), if_pos (by first | omega | assumption), if_neg (by first | omega | assumption)]; rw [pa_1 (by assumption)], rfl, by show _ = (oneB n x R o M).2; unfold oneB; rw [if_neg (by first | omega | assumption), if_neg (by first | omega | assumption), if_neg (by first | omega | assumption), if_neg (by first | omega | assumption), if_pos (by first | omega | assumption), if_neg (by first | omega | assumption)]⟩ | exact ⟨by show _ = some (0, (oneB n x R o M).1); unfold oneB; rw [if_neg (by first | omega | assumption), if_neg (by first | omega | assumption), if_neg (by first | omega | assumption), if_neg (by first | omega | assumption), if_neg (by first | omega | assumption)], rfl, by show _ = (oneB n x R o M).2; unfold oneB; rw [if_neg (by first | omega | assumption), if_neg (by first | omega | assumption), if_neg (by first | omega | assumption), if_neg (by first | omega | assumption), if_neg (by first | omega | assumption)]⟩
                  · refine r_aload_n dX4_readOne_98 rfl (by decide) ?_
                    refine r_iload_n dX4_readOne_99 rfl ?_
                    refine r_iconst dX4_readOne_100 (by decide) ?_
                    refine r_iadd dX4_readOne_101 (w32_id (by omega)) ?_
                    refine r_cv1 dX4_readOne_102 clX4_74 sf2 (by decide) (by decide) rfl (by first | decide | omega) (Nat.le_of_ble_eq_true rfl) ((h0 (by omega) _ hG)) ⟨Nat.zero_le _, Nat.zero_le _⟩ (fun _ => ?_)
                    refine r_if_eq (tgt := 120) dX4_readOne_105 (by decide) (fun h105 => ?_) (fun h105 => ?_)
                    · refine r_iconst dX4_readOne_120 (by decide) ?_
                      refine r_goto (tgt := 132) dX4_readOne_121 (by decide) ?_
                      refine r_zret dX4_readOne_132 rfl (by omega) ?_
                      first | (exfalso; omega) | exact ⟨by show _ = some (0, (oneB n x R o M).1); unfold oneB; rw [if_neg (by first | omega | assumption), if_neg (by first | omega | assumption), if_neg (by first | omega | assumption), if_neg (by first | omega | assumption), if_pos (by first | omega | assumption), if_pos (by first | omega | assumption)], rfl, by show _ = (oneB n x R o M).2; unfold oneB; rw [if_neg (by first | omega | assumption), if_neg (by first | omega | assumption), if_neg (by first | omega | assumption), if_neg (by first | omega | assumption), if_pos (by first | omega | assumption), if_pos (by first | omega | assumption)]⟩ | exact ⟨by show _ = some (0, (oneB n x R o M).1); unfold oneB; rw [if_neg (by first | omega | assumption), if_neg (by first | omega | assumption), if_neg (by first | omega | assumption), if_neg (by first | omega | assumption), if_pos (by first | omega | assumption), if_neg (by first | omega | assumption)]; rw [pa_0 (by assumption)], rfl, by show _ = (oneB n x R o M).2; unfold oneB; rw [if_neg (by first | omega | assumption), if_neg (by first | omega | assumption), if_neg (by first | omega | assumption), if_neg (by first | omega | assumption), if_pos (by first | omega | assumption), if_neg (by first | omega | assumption)]⟩ | exact ⟨by show _ = some (0, (oneB n x R o M).1); unfold oneB; rw [if_neg (by first | omega | assumption), if_neg (by first | omega | assumption), if_neg (by first | omega | assumption), if_neg (by first | omega | assumption), if_pos (by first | omega | assumption), if_neg (by first | omega | assumption)]; rw [pa_1 (by assumption)], rfl, by show _ = (oneB n x R o M).2; unfold oneB; rw [if_neg (by first | omega | assumption), if_neg (by first | omega | assumption), if_neg (by first | omega | assumption), if_neg (by first | omega | assumption), if_pos (by first | omega | assumption), if_neg (by first | omega | assumption)]⟩ | exact ⟨by show _ = some (0, (oneB n x R o M).1); unfold oneB; rw [if_neg (by first | omega | assumption), if_neg (by first | omega | assumption), if_neg (by first | omega | assumption), if_neg (by first | omega | assumption), if_neg (by first | omega | assumption)], rfl, by show _ = (oneB n x R o M).2; unfold oneB; rw [if_neg (by first | omega | assumption), if_neg (by first | omega | assumption), if_neg (by first | omega | assumption), if_neg (by first | omega | assumption), if_neg (by first | omega | assumption)]⟩
                    · refine r_aload_n dX4_readOne_108 rfl (by decide) ?_
                      refine r_iconst dX4_readOne_109 (by decide) ?_
                      refine r_cv1 dX4_readOne_110 clX4_70 sf2 (by decide) (by decide) rfl (by first | decide | omega) (Nat.le_of_ble_eq_true rfl) ((c_pass hq hx (hp 0 (o + 1) 0 _ hG).1)) ⟨Nat.zero_le _, Nat.zero_le _⟩ (fun _ => ?_)
                      refine r_if_eq (tgt := 120) dX4_readOne_113 (by decide) (fun h113 => ?_) (fun h113 => ?_)
                      · refine r_iconst dX4_readOne_120 (by decide) ?_
                        refine r_goto (tgt := 132) dX4_readOne_121 (by decide) ?_
                        refine r_zret dX4_readOne_132 rfl (by omega) ?_
                        first | (exfalso; omega) | exact ⟨by show _ = some (0, (oneB n x R o M).1); unfold oneB; rw [if_neg (by first | omega | assumption), if_neg (by first | omega | assumption), if_neg (by first | omega | assumption), if_neg (by first | omega | assumption), if_pos (by first | omega | assumption), if_pos (by first | omega | assumption)], rfl, by show _ = (oneB n x R o M).2; unfold oneB; rw [if_neg (by first | omega | assumption), if_neg (by first | omega | assumption), if_neg (by first | omega | assumption), if_neg (by first | omega | assumption), if_pos (by first | omega | assumption), if_pos (by first | omega | assumption)]⟩ | exact ⟨by show _ = some (0, (oneB n x R o M).1); unfold oneB; rw [if_neg (by first | omega | assumption), if_neg (by first | omega | assumption), if_neg (by first | omega | assumption), if_neg (by first | omega | assumption), if_pos (by first | omega | assumption), if_neg (by first | omega | assumption)]; rw [pa_0 (by assumption)], rfl, by show _ = (oneB n x R o M).2; unfold oneB; rw [if_neg (by first | omega | assumption), if_neg (by first | omega | assumption), if_neg (by first | omega | assumption), if_neg (by first | omega | assumption), if_pos (by first | omega | assumption), if_neg (by first | omega | assumption)]⟩ | exact ⟨by show _ = some (0, (oneB n x R o M).1); unfold oneB; rw [if_neg (by first | omega | assumption), if_neg (by first | omega | assumption), if_neg (by first | omega | assumption), if_neg (by first | omega | assumption), if_pos (by first | omega | assumption), if_neg (by first | omega | assumption)]; rw [pa_1 (by assumption)], rfl, by show _ = (oneB n x R o M).2; unfold oneB; rw [if_neg (by first | omega | assumption), if_neg (by first | omega | assumption), if_neg (by first | omega | assumption), if_neg (by first | omega | assumption), if_pos (by first | omega | assumption), if_neg (by first | omega | assumption)]⟩ | exact ⟨by show _ = some (0, (oneB n x R o M).1); unfold oneB; rw [if_neg (by first | omega | assumption), if_neg (by first | omega | assumption), if_neg (by first | omega | assumption), if_neg (by first | omega | assumption), if_neg (by first | omega | assumption)], rfl, by show _ = (oneB n x R o M).2; unfold oneB; rw [if_neg (by first | omega | assumption), if_neg (by first | omega | assumption), if_neg (by first | omega | assumption), if_neg (by first | omega | assumption), if_neg (by first | omega | assumption)]⟩
                      · refine r_iconst dX4_readOne_116 (by decide) ?_
                        refine r_goto (tgt := 132) dX4_readOne_117 (by decide) ?_
                        refine r_zret dX4_readOne_132 rfl (by omega) ?_
                        first | (exfalso; omega) | exact ⟨by show _ = some (0, (oneB n x R o M).1); unfold oneB; rw [if_neg (by first | omega | assumption), if_neg (by first | omega | assumption), if_neg (by first | omega | assumption), if_neg (by first | omega | assumption), if_pos (by first | omega | assumption), if_pos (by first | omega | assumption)], rfl, by show _ = (oneB n x R o M).2; unfold oneB; rw [if_neg (by first | omega | assumption), if_neg (by first | omega | assumption), if_neg (by first | omega | assumption), if_neg (by first | omega | assumption), if_pos (by first | omega | assumption), if_pos (by first | omega | assumption)]⟩ | exact ⟨by show _ = some (0, (oneB n x R o M).1); unfold oneB; rw [if_neg (by first | omega | assumption), if_neg (by first | omega | assumption), if_neg (by first | omega | assumption), if_neg (by first | omega | assumption), if_pos (by first | omega | assumption), if_neg (by first | omega | assumption)]; rw [pa_0 (by assumption)], rfl, by show _ = (oneB n x R o M).2; unfold oneB; rw [if_neg (by first | omega | assumption), if_neg (by first | omega | assumption), if_neg (by first | omega | assumption), if_neg (by first | omega | assumption), if_pos (by first | omega | assumption), if_neg (by first | omega | assumption)]⟩ | exact ⟨by show _ = some (0, (oneB n x R o M).1); unfold oneB; rw [if_neg (by first | omega | assumption), if_neg (by first | omega | assumption), if_neg (by first | omega | assumption), if_neg (by first | omega | assumption), if_pos (by first | omega | assumption), if_neg (by first | omega | assumption)]; rw [pa_1 (by assumption)], rfl, by show _ = (oneB n x R o M).2; unfold oneB; rw [if_neg (by first | omega | assumption), if_neg (by first | omega | assumption), if_neg (by first | omega | assumption), if_neg (by first | omega | assumption), if_pos (by first | omega | assumption), if_neg (by first | omega | assumption)]⟩ | exact ⟨by show _ = some (0, (oneB n x R o M).1); unfold oneB; rw [if_neg (by first | omega | assumption), if_neg (by first | omega | assumption), if_neg (by first | omega | assumption), if_neg (by first | omega | assumption), if_neg (by first | omega | assumption)], rfl, by show _ = (oneB n x R o M).2; unfold oneB; rw [if_neg (by first | omega | assumption), if_neg (by first | omega | assumption), if_neg (by first | omega | assumption), if_neg (by first | omega | assumption), if_neg (by first | omega | assumption)]⟩
                · refine r_aload_n dX4_readOne_85 rfl (by decide) ?_
                  refine r_iload_n dX4_readOne_86 rfl ?_
                  refine r_iconst dX4_readOne_87 (by decide) ?_
                  refine r_iadd dX4_readOne_88 (w32_id (by omega)) ?_
                  refine r_cv1 dX4_readOne_89 clX4_103 sf2 (by decide) (by decide) rfl (by first | decide | omega) (Nat.le_of_ble_eq_true rfl) ((h4 (by omega) _ hG)) ⟨Nat.zero_le _, Nat.zero_le _⟩ (fun _ => ?_)
                  refine r_zret dX4_readOne_92 rfl (by omega) ?_
                  first | (exfalso; omega) | exact ⟨by show _ = some (0, (oneB n x R o M).1); unfold oneB; rw [if_neg (by first | omega | assumption), if_neg (by first | omega | assumption), if_neg (by first | omega | assumption), if_pos (by first | omega | assumption)], rfl, by show _ = (oneB n x R o M).2; unfold oneB; rw [if_neg (by first | omega | assumption), if_neg (by first | omega | assumption), if_neg (by first | omega | assumption), if_pos (by first | omega | assumption)]⟩
              · refine r_aload_n dX4_readOne_69 rfl (by decide) ?_
                refine r_iconst dX4_readOne_70 (by decide) ?_
                refine r_cv1 dX4_readOne_71 clX4_50 sf2 (by decide) (by decide) rfl (by first | decide | omega) (Nat.le_of_ble_eq_true rfl) (c_refuse) ⟨Nat.zero_le _, Nat.zero_le _⟩ (fun _ => ?_)
                refine r_zret dX4_readOne_74 rfl (by omega) ?_
                first | (exfalso; omega) | exact ⟨by show _ = some (0, (oneB n x R o M).1); unfold oneB; rw [if_neg (by first | omega | assumption), if_neg (by first | omega | assumption), if_pos (by first | omega | assumption)], rfl, by show _ = (oneB n x R o M).2; unfold oneB; rw [if_neg (by first | omega | assumption), if_neg (by first | omega | assumption), if_pos (by first | omega | assumption)]⟩
            · refine r_iload_n dX4_readOne_45 rfl ?_
              refine r_bipush dX4_readOne_46 (by decide) (by decide) ?_
              refine r_icmp_eq (tgt := 63) dX4_readOne_48 (by decide) (fun h48 => ?_) (fun h48 => ?_)
              · refine r_iload_n dX4_readOne_63 rfl ?_
                refine r_bipush dX4_readOne_64 (by decide) (by decide) ?_
                refine r_icmp_lt (tgt := 75) dX4_readOne_66 (by decide) (fun h66 => ?_) (fun h66 => ?_)
                · refine r_aload_n dX4_readOne_75 rfl (by decide) ?_
                  refine r_cw0 dX4_readOne_76 clX4_37 sf2 (by decide) (by decide) rfl (by first | decide | omega) (Nat.le_of_ble_eq_true rfl) ((c_go hP.1 hP.2.1 hP.2.2.1)) ⟨Nat.zero_le _, Nat.zero_le _⟩ ?_
                  refine r_iload_n dX4_readOne_79 rfl ?_
                  refine r_bipush dX4_readOne_80 (by decide) (by decide) ?_
                  refine r_icmp_ne (tgt := 93) dX4_readOne_82 (by decide) (fun h82 => ?_) (fun h82 => ?_)
                  · refine r_iload_n dX4_readOne_93 rfl ?_
                    refine r_iconst dX4_readOne_94 (by decide) ?_
                    refine r_icmp_ne (tgt := 124) dX4_readOne_95 (by decide) (fun h95 => ?_) (fun h95 => ?_)
                    · refine r_aload_n dX4_readOne_124 rfl (by decide) ?_
                      refine r_iload_n dX4_readOne_125 rfl ?_
                      refine r_iload_n dX4_readOne_126 rfl ?_
                      refine r_iconst dX4_readOne_127 (by decide) ?_
                      refine r_iadd dX4_readOne_128 (w32_id (by omega)) ?_
                      refine r_cv2 dX4_readOne_129 clX4_106 sf2 (by decide) (by decide) rfl (by first | decide | omega) (Nat.le_of_ble_eq_true rfl) ((h3 (by omega) _ _ hG)) ⟨Nat.zero_le _, Nat.zero_le _⟩ (fun _ => ?_)
                      refine r_zret dX4_readOne_132 rfl (by omega) ?_
                      first | (exfalso; omega) | exact ⟨by show _ = some (0, (oneB n x R o M).1); unfold oneB; rw [if_neg (by first | omega | assumption), if_neg (by first | omega | assumption), if_neg (by first | omega | assumption), if_neg (by first | omega | assumption), if_pos (by first | omega | assumption), if_pos (by first | omega | assumption)], rfl, by show _ = (oneB n x R o M).2; unfold oneB; rw [if_neg (by first | omega | assumption), if_neg (by first | omega | assumption), if_neg (by first | omega | assumption), if_neg (by first | omega | assumption), if_pos (by first | omega | assumption), if_pos (by first | omega | assumption)]⟩ | exact ⟨by show _ = some (0, (oneB n x R o M).1); unfold oneB; rw [if_neg (by first | omega | assumption), if_neg (by first | omega | assumption), if_neg (by first | omega | assumption), if_neg (by first | omega | assumption), if_pos (by first | omega | assumption), if_neg (by first | omega | assumption)]; rw [pa_0 (by assumption)], rfl, by show _ = (oneB n x R o M).2; unfold oneB; rw [if_neg (by first | omega | assumption), if_neg (by first | omega | assumption), if_neg (by first | omega | assumption), if_neg (by first | omega | assumption), if_pos (by first | omega | assumption), if_neg (by first | omega | assumption)]⟩ | exact ⟨by show _ = some (0, (oneB n x R o M).1); unfold oneB; rw [if_neg (by first | omega | assumption), if_neg (by first | omega | assumption), if_neg (by first | omega | assumption), if_neg (by first | omega | assumption), if_pos (by first | omega | assumption), if_neg (by first | omega | assumption)]; rw [pa_1 (by assumption)], rfl, by show _ = (oneB n x R o M).2; unfold oneB; rw [if_neg (by first | omega | assumption), if_neg (by first | omega | assumption), if_neg (by first | omega | assumption), if_neg (by first | omega | assumption), if_pos (by first | omega | assumption), if_neg (by first | omega | assumption)]⟩ | exact ⟨by show _ = some (0, (oneB n x R o M).1); unfold oneB; rw [if_neg (by first | omega | assumption), if_neg (by first | omega | assumption), if_neg (by first | omega | assumption), if_neg (by first | omega | assumption), if_neg (by first | omega | assumption)], rfl, by show _ = (oneB n x R o M).2; unfold oneB; rw [if_neg (by first | omega | assumption), if_neg (by first | omega | assumption), if_neg (by first | omega | assumption), if_neg (by first | omega | assumption), if_neg (by first | omega | assumption)]⟩
                    · refine r_aload_n dX4_readOne_98 rfl (by decide) ?_
                      refine r_iload_n dX4_readOne_99 rfl ?_
                      refine r_iconst dX4_readOne_100 (by decide) ?_
                      refine r_iadd dX4_readOne_101 (w32_id (by omega)) ?_
                      refine r_cv1 dX4_readOne_102 clX4_74 sf2 (by decide) (by decide) rfl (by first | decide | omega) (Nat.le_of_ble_eq_true rfl) ((h0 (by omega) _ hG)) ⟨Nat.zero_le _, Nat.zero_le _⟩ (fun _ => ?_)
                      refine r_if_eq (tgt := 120) dX4_readOne_105 (by decide) (fun h105 => ?_) (fun h105 => ?_)
                      · refine r_iconst dX4_readOne_120 (by decide) ?_
                        refine r_goto (tgt := 132) dX4_readOne_121 (by decide) ?_
                        refine r_zret dX4_readOne_132 rfl (by omega) ?_
                        first | (exfalso; omega) | exact ⟨by show _ = some (0, (oneB n x R o M).1); unfold oneB; rw [if_neg (by first | omega | assumption), if_neg (by first | omega | assumption), if_neg (by first | omega | assumption), if_neg (by first | omega | assumption), if_pos (by first | omega | assumption), if_pos (by first | omega | assumption)], rfl, by show _ = (oneB n x R o M).2; unfold oneB; rw [if_neg (by first | omega | assumption), if_neg (by first | omega | assumption), if_neg (by first | omega | assumption), if_neg (by first | omega | assumption), if_pos (by first | omega | assumption), if_pos (by first | omega | assumption)]⟩ | exact ⟨by show _ = some (0, (oneB n x R o M).1); unfold oneB; rw [if_neg (by first | omega | assumption), if_neg (by first | omega | assumption), if_neg (by first | omega | assumption), if_neg (by first | omega | assumption), if_pos (by first | omega | assumption), if_neg (by first | omega | assumption)]; rw [pa_0 (by assumption)], rfl, by show _ = (oneB n x R o M).2; unfold oneB; rw [if_neg (by first | omega | assumption), if_neg (by first | omega | assumption), if_neg (by first | omega | assumption), if_neg (by first | omega | assumption), if_pos (by first | omega | assumption), if_neg (by first | omega | assumption)]⟩ | exact ⟨by show _ = some (0, (oneB n x R o M).1); unfold oneB; rw [if_neg (by first | omega | assumption), if_neg (by first | omega | assumption), if_neg (by first | omega | assumption), if_neg (by first | omega | assumption), if_pos (by first | omega | assumption), if_neg (by first | omega | assumption)]; rw [pa_1 (by assumption)], rfl, by show _ = (oneB n x R o M).2; unfold oneB; rw [if_neg (by first | omega | assumption), if_neg (by first | omega | assumption), if_neg (by first | omega | assumption), if_neg (by first | omega | assumption), if_pos (by first | omega | assumption), if_neg (by first | omega | assumption)]⟩ | exact ⟨by show _ = some (0, (oneB n x R o M).1); unfold oneB; rw [if_neg (by first | omega | assumption), if_neg (by first | omega | assumption), if_neg (by first | omega | assumption), if_neg (by first | omega | assumption), if_neg (by first | omega | assumption)], rfl, by show _ = (oneB n x R o M).2; unfold oneB; rw [if_neg (by first | omega | assumption), if_neg (by first | omega | assumption), if_neg (by first | omega | assumption), if_neg (by first | omega | assumption), if_neg (by first | omega | assumption)]⟩
                      · refine r_aload_n dX4_readOne_108 rfl (by decide) ?_
                        refine r_iconst dX4_readOne_109 (by decide) ?_
                        refine r_cv1 dX4_readOne_110 clX4_70 sf2 (by decide) (by decide) rfl (by first | decide | omega) (Nat.le_of_ble_eq_true rfl) ((c_pass hq hx (hp 0 (o + 1) 0 _ hG).1)) ⟨Nat.zero_le _, Nat.zero_le _⟩ (fun _ => ?_)
                        refine r_if_eq (tgt := 120) dX4_readOne_113 (by decide) (fun h113 => ?_) (fun h113 => ?_)
                        · refine r_iconst dX4_readOne_120 (by decide) ?_
                          refine r_goto (tgt := 132) dX4_readOne_121 (by decide) ?_
                          refine r_zret dX4_readOne_132 rfl (by omega) ?_
                          first | (exfalso; omega) | exact ⟨by show _ = some (0, (oneB n x R o M).1); unfold oneB; rw [if_neg (by first | omega | assumption), if_neg (by first | omega | assumption), if_neg (by first | omega | assumption), if_neg (by first | omega | assumption), if_pos (by first | omega | assumption), if_pos (by first | omega | assumption)], rfl, by show _ = (oneB n x R o M).2; unfold oneB; rw [if_neg (by first | omega | assumption), if_neg (by first | omega | assumption), if_neg (by first | omega | assumption), if_neg (by first | omega | assumption), if_pos (by first | omega | assumption), if_pos (by first | omega | assumption)]⟩ | exact ⟨by show _ = some (0, (oneB n x R o M).1); unfold oneB; rw [if_neg (by first | omega | assumption), if_neg (by first | omega | assumption), if_neg (by first | omega | assumption), if_neg (by first | omega | assumption), if_pos (by first | omega | assumption), if_neg (by first | omega | assumption)]; rw [pa_0 (by assumption)], rfl, by show _ = (oneB n x R o M).2; unfold oneB; rw [if_neg (by first | omega | assumption), if_neg (by first | omega | assumption), if_neg (by first | omega | assumption), if_neg (by first | omega | assumption), if_pos (by first | omega | assumption), if_neg (by first | omega | assumption)]⟩ | exact ⟨by show _ = some (0, (oneB n x R o M).1); unfold oneB; rw [if_neg (by first | omega | assumption), if_neg (by first | omega | assumption), if_neg (by first | omega | assumption), if_neg (by first | omega | assumption), if_pos (by first | omega | assumption), if_neg (by first | omega | assumption)]; rw [pa_1 (by assumption)], rfl, by show _ = (oneB n x R o M).2; unfold oneB; rw [if_neg (by first | omega | assumption), if_neg (by first | omega | assumption), if_neg (by first | omega | assumption), if_neg (by first | omega | assumption), if_pos (by first | omega | assumption), if_neg (by first | omega | assumption)]⟩ | exact ⟨by show _ = some (0, (oneB n x R o M).1); unfold oneB; rw [if_neg (by first | omega | assumption), if_neg (by first | omega | assumption), if_neg (by first | omega | assumption), if_neg (by first | omega | assumption), if_neg (by first | omega | assumption)], rfl, by show _ = (oneB n x R o M).2; unfold oneB; rw [if_neg (by first | omega | assumption), if_neg (by first | omega | assumption), if_neg (by first | omega | assumption), if_neg (by first | omega | assumption), if_neg (by first | omega | assumption)]⟩
                        · refine r_iconst dX4_readOne_116 (by decide) ?_
                          refine r_goto (tgt := 132) dX4_readOne_117 (by decide) ?_
                          refine r_zret dX4_readOne_132 rfl (by omega) ?_
                          first | (exfalso; omega) | exact ⟨by show _ = some (0, (oneB n x R o M).1); unfold oneB; rw [if_neg (by first | omega | assumption), if_neg (by first | omega | assumption), if_neg (by first | omega | assumption), if_neg (by first | omega | assumption), if_pos (by first | omega | assumption), if_pos (by first | omega | assumption)], rfl, by show _ = (oneB n x R o M).2; unfold oneB; rw [if_neg (by first | omega | assumption), if_neg (by first | omega | assumption), if_neg (by first | omega | assumption), if_neg (by first | omega | assumption), if_pos (by first | omega | assumption), if_pos (by first | omega | assumption)]⟩ | exact ⟨by show _ = some (0, (oneB n x R o M).1); unfold oneB; rw [if_neg (by first | omega | assumption), if_neg (by first | omega | assumption), if_neg (by first | omega | assumption), if_neg (by first | omega | assumption), if_pos (by first | omega | assumption), if_neg (by first | omega | assumption)]; rw [pa_0 (by assumption)], rfl, by show _ = (oneB n x R o M).2; unfold oneB; rw [if_neg (by first | omega | assumption), if_neg (by first | omega | assumption), if_neg (by first | omega | assumption), if_neg (by first | omega | assumption), if_pos (by first | omega | assumption), if_neg (by first | omega | assumption)]⟩ | exact ⟨by show _ = some (0, (oneB n x R o M).1); unfold oneB; rw [if_neg (by first | omega | assumption), if_neg (by first | omega | assumption), if_neg (by first | omega | assumption), if_neg (by first | omega | assumption), if_pos (by first | omega | assumption), if_neg (by first | omega | assumption)]; rw [pa_1 (by assumption)], rfl, by show _ = (oneB n x R o M).2; unfold oneB; rw [if_neg (by first | omega | assumption), if_neg (by first | omega | assumption), if_neg (by first | omega | assumption), if_neg (by first | omega | assumption), if_pos (by first | omega | assumption), if_neg (by first | omega | assumption)]⟩ | exact ⟨by show _ = some (0, (oneB n x R o M).1); unfold oneB; rw [if_neg (by first | omega | assumption), if_neg (by first | omega | assumption), if_neg (by first | omega | assumption), if_neg (by first | omega | assumption), if_neg (by first | omega | assumption)], rfl, by show _ = (oneB n x R o M).2; unfold oneB; rw [if_neg (by first | omega | assumption), if_neg (by first | omega | assumption), if_neg (by first | omega | assumption), if_neg (by first | omega | assumption), if_neg (by first | omega | assumption)]⟩
                  · refine r_aload_n dX4_readOne_85 rfl (by decide) ?_
                    refine r_iload_n dX4_readOne_86 rfl ?_
                    refine r_iconst dX4_readOne_87 (by decide) ?_
                    refine r_iadd dX4_readOne_88 (w32_id (by omega)) ?_
                    refine r_cv1 dX4_readOne_89 clX4_103 sf2 (by decide) (by decide) rfl (by first | decide | omega) (Nat.le_of_ble_eq_true rfl) ((h4 (by omega) _ hG)) ⟨Nat.zero_le _, Nat.zero_le _⟩ (fun _ => ?_)
                    refine r_zret dX4_readOne_92 rfl (by omega) ?_
                    first | (exfalso; omega) | exact ⟨by show _ = some (0, (oneB n x R o M).1); unfold oneB; rw [if_neg (by first | omega | assumption), if_neg (by first | omega | assumption), if_neg (by first | omega | assumption), if_pos (by first | omega | assumption)], rfl, by show _ = (oneB n x R o M).2; unfold oneB; rw [if_neg (by first | omega | assumption), if_neg (by first | omega | assumption), if_neg (by first | omega | assumption), if_pos (by first | omega | assumption)]⟩
                · refine r_aload_n dX4_readOne_69 rfl (by decide) ?_
                  refine r_iconst dX4_readOne_70 (by decide) ?_
                  refine r_cv1 dX4_readOne_71 clX4_50 sf2 (by decide) (by decide) rfl (by first | decide | omega) (Nat.le_of_ble_eq_true rfl) (c_refuse) ⟨Nat.zero_le _, Nat.zero_le _⟩ (fun _ => ?_)
                  refine r_zret dX4_readOne_74 rfl (by omega) ?_
                  first | (exfalso; omega) | exact ⟨by show _ = some (0, (oneB n x R o M).1); unfold oneB; rw [if_neg (by first | omega | assumption), if_neg (by first | omega | assumption), if_pos (by first | omega | assumption)], rfl, by show _ = (oneB n x R o M).2; unfold oneB; rw [if_neg (by first | omega | assumption), if_neg (by first | omega | assumption), if_pos (by first | omega | assumption)]⟩
              · refine r_iload_n dX4_readOne_51 rfl ?_
                refine r_bipush dX4_readOne_52 (by decide) (by decide) ?_
                refine r_icmp_eq (tgt := 63) dX4_readOne_54 (by decide) (fun h54 => ?_) (fun h54 => ?_)
                · refine r_iload_n dX4_readOne_63 rfl ?_
                  refine r_bipush dX4_readOne_64 (by decide) (by decide) ?_
                  refine r_icmp_lt (tgt := 75) dX4_readOne_66 (by decide) (fun h66 => ?_) (fun h66 => ?_)
                  · refine r_aload_n dX4_readOne_75 rfl (by decide) ?_
                    refine r_cw0 dX4_readOne_76 clX4_37 sf2 (by decide) (by decide) rfl (by first | decide | omega) (Nat.le_of_ble_eq_true rfl) ((c_go hP.1 hP.2.1 hP.2.2.1)) ⟨Nat.zero_le _, Nat.zero_le _⟩ ?_
                    refine r_iload_n dX4_readOne_79 rfl ?_
                    refine r_bipush dX4_readOne_80 (by decide) (by decide) ?_
                    refine r_icmp_ne (tgt := 93) dX4_readOne_82 (by decide) (fun h82 => ?_) (fun h82 => ?_)
                    · refine r_iload_n dX4_readOne_93 rfl ?_
                      refine r_iconst dX4_readOne_94 (by decide) ?_
                      refine r_icmp_ne (tgt := 124) dX4_readOne_95 (by decide) (fun h95 => ?_) (fun h95 => ?_)
                      · refine r_aload_n dX4_readOne_124 rfl (by decide) ?_
                        refine r_iload_n dX4_readOne_125 rfl ?_
                        refine r_iload_n dX4_readOne_126 rfl ?_
                        refine r_iconst dX4_readOne_127 (by decide) ?_
                        refine r_iadd dX4_readOne_128 (w32_id (by omega)) ?_
                        refine r_cv2 dX4_readOne_129 clX4_106 sf2 (by decide) (by decide) rfl (by first | decide | omega) (Nat.le_of_ble_eq_true rfl) ((h3 (by omega) _ _ hG)) ⟨Nat.zero_le _, Nat.zero_le _⟩ (fun _ => ?_)
                        refine r_zret dX4_readOne_132 rfl (by omega) ?_
                        first | (exfalso; omega) | exact ⟨by show _ = some (0, (oneB n x R o M).1); unfold oneB; rw [if_neg (by first | omega | assumption), if_neg (by first | omega | assumption), if_neg (by first | omega | assumption), if_neg (by first | omega | assumption), if_pos (by first | omega | assumption), if_pos (by first | omega | assumption)], rfl, by show _ = (oneB n x R o M).2; unfold oneB; rw [if_neg (by first | omega | assumption), if_neg (by first | omega | assumption), if_neg (by first | omega | assumption), if_neg (by first | omega | assumption), if_pos (by first | omega | assumption), if_pos (by first | omega | assumption)]⟩ | exact ⟨by show _ = some (0, (oneB n x R o M).1); unfold oneB; rw [if_neg (by first | omega | assumption), if_neg (by first | omega | assumption), if_neg (by first | omega | assumption), if_neg (by first | omega | assumption), if_pos (by first | omega | assumption), if_neg (by first | omega | assumption)]; rw [pa_0 (by assumption)], rfl, by show _ = (oneB n x R o M).2; unfold oneB; rw [if_neg (by first | omega | assumption), if_neg (by first | omega | assumption), if_neg (by first | omega | assumption), if_neg (by first | omega | assumption), if_pos (by first | omega | assumption), if_neg (by first | omega | assumption)]⟩ | exact ⟨by show _ = some (0, (oneB n x R o M).1); unfold oneB; rw [if_neg (by first | omega | assumption), if_neg (by first | omega | assumption), if_neg (by first | omega | assumption), if_neg (by first | omega | assumption), if_pos (by first | omega | assumption), if_neg (by first | omega | assumption)]; rw [pa_1 (by assumption)], rfl, by show _ = (oneB n x R o M).2; unfold oneB; rw [if_neg (by first | omega | assumption), if_neg (by first | omega | assumption), if_neg (by first | omega | assumption), if_neg (by first | omega | assumption), if_pos (by first | omega | assumption), if_neg (by first | omega | assumption)]⟩ | exact ⟨by show _ = some (0, (oneB n x R o M).1); unfold oneB; rw [if_neg (by first | omega | assumption), if_neg (by first | omega | assumption), if_neg (by first | omega | assumption), if_neg (by first | omega | assumption), if_neg (by first | omega | assumption)], rfl, by show _ = (oneB n x R o M).2; unfold oneB; rw [if_neg (by first | omega | assumption), if_neg (by first | omega | assumption), if_neg (by first | omega | assumption), if_neg (by first | omega | assumption), if_neg (by first | omega | assumption)]⟩
                      · refine r_aload_n dX4_readOne_98 rfl (by decide) ?_
                        refine r_iload_n dX4_readOne_99 rfl ?_
                        refine r_iconst dX4_readOne_100 (by decide) ?_
                        refine r_iadd dX4_readOne_101 (w32_id (by omega)) ?_
                        refine r_cv1 dX4_readOne_102 clX4_74 sf2 (by decide) (by decide) rfl (by first | decide | omega) (Nat.le_of_ble_eq_true rfl) ((h0 (by omega) _ hG)) ⟨Nat.zero_le _, Nat.zero_le _⟩ (fun _ => ?_)
                        refine r_if_eq (tgt := 120) dX4_readOne_105 (by decide) (fun h105 => ?_) (fun h105 => ?_)
                        · refine r_iconst dX4_readOne_120 (by decide) ?_
                          refine r_goto (tgt := 132) dX4_readOne_121 (by decide) ?_
                          refine r_zret dX4_readOne_132 rfl (by omega) ?_
                          first | (exfalso; omega) | exact ⟨by show _ = some (0, (oneB n x R o M).1); unfold oneB; rw [if_neg (by first | omega | assumption), if_neg (by first | omega | assumption), if_neg (by first | omega | assumption), if_neg (by first | omega | assumption), if_pos (by first | omega | assumption), if_pos (by first | omega | assumption)], rfl, by show _ = (oneB n x R o M).2; unfold oneB; rw [if_neg (by first | omega | assumption), if_neg (by first | omega | assumption), if_neg (by first | omega | assumption), if_neg (by first | omega | assumption), if_pos (by first | omega | assumption), if_pos (by first | omega | assumption)]⟩ | exact ⟨by show _ = some (0, (oneB n x R o M).1); unfold oneB; rw [if_neg (by first | omega | assumption), if_neg (by first | omega | assumption), if_neg (by first | omega | assumption), if_neg (by first | omega | assumption), if_pos (by first | omega | assumption), if_neg (by first | omega | assumption)]; rw [pa_0 (by assumption)], rfl, by show _ = (oneB n x R o M).2; unfold oneB; rw [if_neg (by first | omega | assumption), if_neg (by first | omega | assumption), if_neg (by first | omega | assumption), if_neg (by first | omega | assumption), if_pos (by first | omega | assumption), if_neg (by first | omega | assumption)]⟩ | exact ⟨by show _ = some (0, (oneB n x R o M).1); unfold oneB; rw [if_neg (by first | omega | assumption), if_neg (by first | omega | assumption), if_neg (by first | omega | assumption), if_neg (by first | omega | assumption), if_pos (by first | omega | assumption), if_neg (by first | omega | assumption)]; rw [pa_1 (by assumption)], rfl, by show _ = (oneB n x R o M).2; unfold oneB; rw [if_neg (by first | omega | assumption), if_neg (by first | omega | assumption), if_neg (by first | omega | assumption), if_neg (by first | omega | assumption), if_pos (by first | omega | assumption), if_neg (by first | omega | assumption)]⟩ | exact ⟨by show _ = some (0, (oneB n x R o M).1); unfold oneB; rw [if_neg (by first | omega | assumption), if_neg (by first | omega | assumption), if_neg (by first | omega | assumption), if_neg (by first | omega | assumption), if_neg (by first | omega | assumption)], rfl, by show _ = (oneB n x R o M).2; unfold oneB; rw [if_neg (by first | omega | assumption), if_neg (by first | omega | assumption), if_neg (by first | omega | assumption), if_neg (by first | omega | assumption), if_neg (by first | omega | assumption)]⟩
                        · refine r_aload_n dX4_readOne_108 rfl (by decide) ?_
                          refine r_iconst dX4_readOne_109 (by decide) ?_
                          refine r_cv1 dX4_readOne_110 clX4_70 sf2 (by decide) (by decide) rfl (by first | decide | omega) (Nat.le_of_ble_eq_true rfl) ((c_pass hq hx (hp 0 (o + 1) 0 _ hG).1)) ⟨Nat.zero_le _, Nat.zero_le _⟩ (fun _ => ?_)
                          refine r_if_eq (tgt := 120) dX4_readOne_113 (by decide) (fun h113 => ?_) (fun h113 => ?_)
                          · refine r_iconst dX4_readOne_120 (by decide) ?_
                            refine r_goto (tgt := 132) dX4_readOne_121 (by decide) ?_
                            refine r_zret dX4_readOne_132 rfl (by omega) ?_
                            first | (exfalso; omega) | exact ⟨by show _ = some (0, (oneB n x R o M).1); unfold oneB; rw [if_neg (by first | omega | assumption), if_neg (by first | omega | assumption), if_neg (by first | omega | assumption), if_neg (by first | omega | assumption), if_pos (by first | omega | assumption), if_pos (by first | omega | assumption)], rfl, by show _ = (oneB n x R o M).2; unfold oneB; rw [if_neg (by first | omega | assumption), if_neg (by first | omega | assumption), if_neg (by first | omega | assumption), if_neg (by first | omega | assumption), if_pos (by first | omega | assumption), if_pos (by first | omega | assumption)]⟩ | exact ⟨by show _ = some (0, (oneB n x R o M).1); unfold oneB; rw [if_neg (by first | omega | assumption), if_neg (by first | omega | assumption), if_neg (by first | omega | assumption), if_neg (by first | omega | assumption), if_pos (by first | omega | assumption), if_neg (by first | omega | assumption)]; rw [pa_0 (by assumption)], rfl, by show _ = (oneB n x R o M).2; unfold oneB; rw [if_neg (by first | omega | assumption), if_neg (by first | omega | assumption), if_neg (by first | omega | assumption), if_neg (by first | omega | assumption), if_pos (by first | omega | assumption), if_neg (by first | omega | assumption)]⟩ | exact ⟨by show _ = some (0, (oneB n x R o M).1); unfold oneB; rw [if_neg (by first | omega | assumption), if_neg (by first | omega | assumption), if_neg (by first | omega | assumption), if_neg (by first | omega | assumption), if_pos (by first | omega | assumption), if_neg (by first | omega | assumption)]; rw [pa_1 (by assumption)], rfl, by show _ = (oneB n x R o M).2; unfold oneB; rw [if_neg (by first | omega | assumption), if_neg (by first | omega | assumption), if_neg (by first | omega | assumption), if_neg (by first | omega | assumption), if_pos (by first | omega | assumption), if_neg (by first | omega | assumption)]⟩ | exact ⟨by show _ = some (0, (oneB n x R o M).1); unfold oneB; rw [if_neg (by first | omega | assumption), if_neg (by first | omega | assumption), if_neg (by first | omega | assumption), if_neg (by first | omega | assumption), if_neg (by first | omega | assumption)], rfl, by show _ = (oneB n x R o M).2; unfold oneB; rw [if_neg (by first | omega | assumption), if_neg (by first | omega | assumption), if_neg (by first | omega | assumption), if_neg (by first | omega | assumption), if_neg (by first | omega | assumption)]⟩
                          · refine r_iconst dX4_readOne_116 (by decide) ?_
                            refine r_goto (tgt := 132) dX4_readOne_117 (by decide) ?_
                            refine r_zret dX4_readOne_132 rfl (by omega) ?_
                            first | (exfalso; omega) | exact ⟨by show _ = some (0, (oneB n x R o M).1); unfold oneB; rw [if_neg (by first | omega | assumption), if_neg (by first | omega | assumption), if_neg (by first | omega | assumption), if_neg (by first | omega | assumption), if_pos (by first | omega | assumption), if_pos (by first | omega | assumption)], rfl, by show _ = (oneB n x R o M).2; unfold oneB; rw [if_neg (by first | omega | assumption), if_neg (by first | omega | assumption), if_neg (by first | omega | assumption), if_neg (by first | omega | assumption), if_pos (by first | omega | assumption), if_pos (by first | omega | assumption)]⟩ | exact ⟨by show _ = some (0, (oneB n x R o M).1); unfold oneB; rw [if_neg (by first | omega | assumption), if_neg (by first | omega | assumption), if_neg (by first | omega | assumption), if_neg (by first | omega | assumption), if_pos (by first | omega | assumption), if_neg (by first | omega | assumption)]; rw [pa_0 (by assumption)], rfl, by show _ = (oneB n x R o M).2; unfold oneB; rw [if_neg (by first | omega | assumption), if_neg (by first | omega | assumption), if_neg (by first | omega | assumption), if_neg (by first | omega | assumption), if_pos (by first | omega | assumption), if_neg (by first | omega | assumption)]⟩ | exact ⟨by show _ = some (0, (oneB n x R o M).1); unfold oneB; rw [if_neg (by first | omega | assumption), if_neg (by first | omega | assumption), if_neg (by first | omega | assumption), if_neg (by first | omega | assumption), if_pos (by first | omega | assumption), if_neg (by first | omega | assumption)]; rw [pa_1 (by assumption)], rfl, by show _ = (oneB n x R o M).2; unfold oneB; rw [if_neg (by first | omega | assumption), if_neg (by first | omega | assumption), if_neg (by first | omega | assumption), if_neg (by first | omega | assumption), if_pos (by first | omega | assumption), if_neg (by first | omega | assumption)]⟩ | exact ⟨by show _ = some (0, (oneB n x R o M).1); unfold oneB; rw [if_neg (by first | omega | assumption), if_neg (by first | omega | assumption), if_neg (by first | omega | assumption), if_neg (by first | omega | assumption), if_neg (by first | omega | assumption)], rfl, by show _ = (oneB n x R o M).2; unfold oneB; rw [if_neg (by first | omega | assumption), if_neg (by first | omega | assumption), if_neg (by first | omega | assumption), if_neg (by first | omega | assumption), if_neg (by first | omega | assumption)]⟩
                    · refine r_aload_n dX4_readOne_85 rfl (by decide) ?_
                      refine r_iload_n dX4_readOne_86 rfl ?_
                      refine r_iconst dX4_readOne_87 (by decide) ?_
                      refine r_iadd dX4_readOne_88 (w32_id (by omega)) ?_
                      refine r_cv1 dX4_readOne_89 clX4_103 sf2 (by decide) (by decide) rfl (by first | decide | omega) (Nat.le_of_ble_eq_true rfl) ((h4 (by omega) _ hG)) ⟨Nat.zero_le _, Nat.zero_le _⟩ (fun _ => ?_)
                      refine r_zret dX4_readOne_92 rfl (by omega) ?_
                      first | (exfalso; omega) | exact ⟨by show _ = some (0, (oneB n x R o M).1); unfold oneB; rw [if_neg (by first | omega | assumption), if_neg (by first | omega | assumption), if_neg (by first | omega | assumption), if_pos (by first | omega | assumption)], rfl, by show _ = (oneB n x R o M).2; unfold oneB; rw [if_neg (by first | omega | assumption), if_neg (by first | omega | assumption), if_neg (by first | omega | assumption), if_pos (by first | omega | assumption)]⟩
                  · refine r_aload_n dX4_readOne_69 rfl (by decide) ?_
                    refine r_iconst dX4_readOne_70 (by decide) ?_
                    refine r_cv1 dX4_readOne_71 clX4_50 sf2 (by decide) (by decide) rfl (by first | decide | omega) (Nat.le_of_ble_eq_true rfl) (c_refuse) ⟨Nat.zero_le _, Nat.zero_le _⟩ (fun _ => ?_)
                    refine r_zret dX4_readOne_74 rfl (by omega) ?_
                    first | (exfalso; omega) | exact ⟨by show _ = some (0, (oneB n x R o M).1); unfold oneB; rw [if_neg (by first | omega | assumption), if_neg (by first | omega | assumption), if_pos (by first | omega | assumption)], rfl, by show _ = (oneB n x R o M).2; unfold oneB; rw [if_neg (by first | omega | assumption), if_neg (by first | omega | assumption), if_pos (by first | omega | assumption)]⟩
                · refine r_aload_n dX4_readOne_57 rfl (by decide) ?_
                  refine r_iconst dX4_readOne_58 (by decide) ?_
                  refine r_cv1 dX4_readOne_59 clX4_50 sf2 (by decide) (by decide) rfl (by first | decide | omega) (Nat.le_of_ble_eq_true rfl) (c_refuse) ⟨Nat.zero_le _, Nat.zero_le _⟩ (fun _ => ?_)
                  refine r_zret dX4_readOne_62 rfl (by omega) ?_
                  first | (exfalso; omega) | exact ⟨by show _ = some (0, (oneB n x R o M).1); unfold oneB; rw [if_neg (by first | omega | assumption), if_pos (by first | omega | assumption)], rfl, by show _ = (oneB n x R o M).2; unfold oneB; rw [if_neg (by first | omega | assumption), if_pos (by first | omega | assumption)]⟩
      · refine r_aload_n dX4_readOne_22 rfl (by decide) ?_
        refine r_iload_n dX4_readOne_23 rfl ?_
        refine r_cv1 dX4_readOne_24 clX4_100 sf2 (by decide) (by decide) rfl (by first | decide | omega) (Nat.le_of_ble_eq_true rfl) ((c_readLeaf hq hx hP)) ⟨Nat.zero_le _, Nat.zero_le _⟩ (fun _ => ?_)
        refine r_zret dX4_readOne_27 rfl (by omega) ?_
        first | (exfalso; omega) | exact ⟨by show _ = some (0, (oneB n x R o M).1); unfold oneB; rw [if_pos (by first | omega | assumption)], rfl, by show _ = (oneB n x R o M).2; unfold oneB; rw [if_pos (by first | omega | assumption)]⟩
theorem c_readChanged {x y z : Int} (hq : TS (Sf x y z) x) (hx : 15 ≤ x ∧ x ≤ 39) {n : Nat} {D : Nat} (hD : 7 ≤ D) {o k : Int} {R : RF} (hp : ∀ fn o k M, PR M x n → GP n x (R fn o k M)) (h2 : RC kX4_readOne D x y z n [(0, o)] (R 2 o 0)) : RC kX4_readChanged (D + 1) x y z n [(0, k), (0, o)] (fun M => chgB x R o k M) := by
  intro M hP
  obtain ⟨x0, x1, x2, x3, -, -, -, -, -⟩ := id hq
  have b1 := (hp 2 o 0 M hP).2
  refine Con.ofV (al := [(1, 2), (0, k), (0, o), (9, 0)]) 1 (by decide) (Nat.le_of_ble_eq_true rfl) rfl ?_
  refine r_aload_n dX4_readChanged_0 rfl (by decide) ?_
  refine r_iload_n dX4_readChanged_1 rfl ?_
  refine r_cv1 dX4_readChanged_2 clX4_97 sf2 (by decide) (by decide) rfl (by first | decide | omega) (Nat.le_of_ble_eq_true rfl) ((h2 M hP)) ⟨Nat.zero_le _, Nat.zero_le _⟩ (fun _ => ?_)
  refine r_istore_n dX4_readChanged_5 rfl (by decide) st3 ?_
  refine r_aload_n dX4_readChanged_6 rfl (by decide) ?_
  refine r_getr (x := x) dX4_readChanged_7 flX4_25 sf2 (by decide) (by decide) rfl rfl ?_
  refine r_iload_n dX4_readChanged_10 rfl ?_
  refine r_bipush dX4_readChanged_11 (by decide) (by decide) ?_
  refine r_icmp_ne (tgt := 21) dX4_readChanged_13 (by decide) (fun h13 => ?_) (fun h13 => ?_)
  · refine r_iload_n dX4_readChanged_21 rfl ?_
    refine r_iconst dX4_readChanged_22 (by decide) ?_
    refine r_cw2 dX4_readChanged_23 clX4_91 x0 (by omega) (by decide) rfl (by first | decide | omega) (Nat.le_of_ble_eq_true rfl) ((c_add hq hx (hp 2 o 0 M hP).1.2.2.2.1)) ⟨Nat.zero_le _, Nat.zero_le _⟩ ?_
    refine r_iload_n dX4_readChanged_26 rfl ?_
    refine r_zret dX4_readChanged_27 rfl (by omega) ?_
    first | exact ⟨rfl, rfl, by show _ = (chgB x R o k M).2; unfold chgB; rw [if_pos (by assumption)]⟩ | exact ⟨rfl, rfl, by show _ = (chgB x R o k M).2; unfold chgB; rw [if_neg (by assumption)]⟩
  · refine r_bipush dX4_readChanged_16 (by decide) (by decide) ?_
    refine r_goto (tgt := 22) dX4_readChanged_18 (by decide) ?_
    refine r_iconst dX4_readChanged_22 (by decide) ?_
    refine r_cw2 dX4_readChanged_23 clX4_91 x0 (by omega) (by decide) rfl (by first | decide | omega) (Nat.le_of_ble_eq_true rfl) ((c_add hq hx (hp 2 o 0 M hP).1.2.2.2.1)) ⟨Nat.zero_le _, Nat.zero_le _⟩ ?_
    refine r_iload_n dX4_readChanged_26 rfl ?_
    refine r_zret dX4_readChanged_27 rfl (by omega) ?_
    first | exact ⟨rfl, rfl, by show _ = (chgB x R o k M).2; unfold chgB; rw [if_pos (by assumption)]⟩ | exact ⟨rfl, rfl, by show _ = (chgB x R o k M).2; unfold chgB; rw [if_neg (by assumption)]⟩
theorem c_readAsk {x y z : Int} (hq : TS (Sf x y z) x) (hx : 15 ≤ x ∧ x ≤ 39) {n : Nat} {D : Nat} (hD : 7 ≤ D) {o : Int} {R : RF} (hp : ∀ fn o k M, PR M x n → GP n x (R fn o k M)) (h0 : RC kX4_readSum D x y z n [(0, o)] (R 0 o 0)) (h8 : o < 8 → RC kX4_readNot D x y z n [(0, o + 1)] (R 8 (o + 1) 0)) (ho : 0 ≤ o ∧ o ≤ 8) : RC kX4_readAsk (D + 1) x y z n [(0, o)] (fun M => askB n x R o M) := by
  intro M hP
  obtain ⟨x0, x1, x2, x3, -, -, -, -, -⟩ := id hq
  have h1 := hp 0 o 0 M hP
  have h2 := hp 0 o 0 _ (h1.1.go hx)
  have b1 := h1.2
  have b2 := h2.2
  have b3 := (hp 8 (o + 1) 0 M hP).2
  refine Con.ofV (al := [(1, 2), (0, o), (9, 0), (9, 0)]) 2 (by decide) (Nat.le_of_ble_eq_true rfl) rfl ?_
  refine r_aload_n dX4_readAsk_0 rfl (by decide) ?_
  refine r_gi 7 dX4_readAsk_1 flX4_40 sf2 (by decide) (by decide) rfl rfl rfl ?_
  refine r_bipush dX4_readAsk_4 (by decide) (by decide) ?_
  refine r_icmp_ne (tgt := 31) dX4_readAsk_6 (by decide) (fun h6 => ?_) (fun h6 => ?_)
  · refine r_aload_n dX4_readAsk_31 rfl (by decide) ?_
    refine r_iload_n dX4_readAsk_32 rfl ?_
    refine r_cv1 dX4_readAsk_33 clX4_74 sf2 (by decide) (by decide) rfl (by first | decide | omega) (Nat.le_of_ble_eq_true rfl) ((h0 M hP)) ⟨Nat.zero_le _, Nat.zero_le _⟩ (fun _ => ?_)
    refine r_if_ne (tgt := 41) dX4_readAsk_36 (by decide) (fun h36 => ?_) (fun h36 => ?_)
    · refine r_aload_n dX4_readAsk_41 rfl (by decide) ?_
      refine r_gi 7 dX4_readAsk_42 flX4_40 sf2 (by decide) (by decide) rfl rfl rfl ?_
      refine r_istore_n dX4_readAsk_45 rfl (by decide) st2 ?_
      refine r_iload_n dX4_readAsk_46 rfl ?_
      refine r_bipush dX4_readAsk_47 (by decide) (by decide) ?_
      refine r_icmp_lt (tgt := 58) dX4_readAsk_49 (by decide) (fun h49 => ?_) (fun h49 => ?_)
      · refine r_aload_n dX4_readAsk_58 rfl (by decide) ?_
        refine r_iconst dX4_readAsk_59 (by decide) ?_
        refine r_cv1 dX4_readAsk_60 clX4_50 sf2 (by decide) (by decide) rfl (by first | decide | omega) (Nat.le_of_ble_eq_true rfl) (c_refuse) ⟨Nat.zero_le _, Nat.zero_le _⟩ (fun _ => ?_)
        refine r_zret dX4_readAsk_63 rfl (by omega) ?_
        first | (exfalso; omega) | exact ⟨by show _ = some (0, (askB n x R o M).1); unfold askB; rw [if_neg (by first | omega | assumption), if_neg (by first | omega | assumption), if_pos (by first | omega | assumption)], rfl, by show _ = (askB n x R o M).2; unfold askB; rw [if_neg (by first | omega | assumption), if_neg (by first | omega | assumption), if_pos (by first | omega | assumption)]⟩
      · refine r_iload_n dX4_readAsk_52 rfl ?_
        refine r_bipush dX4_readAsk_53 (by decide) (by decide) ?_
        refine r_icmp_le (tgt := 64) dX4_readAsk_55 (by decide) (fun h55 => ?_) (fun h55 => ?_)
        · refine r_aload_n dX4_readAsk_64 rfl (by decide) ?_
          refine r_cw0 dX4_readAsk_65 clX4_37 sf2 (by decide) (by decide) rfl (by first | decide | omega) (Nat.le_of_ble_eq_true rfl) ((c_go h1.1.1 h1.1.2.1 h1.1.2.2.1)) ⟨Nat.zero_le _, Nat.zero_le _⟩ ?_
          refine r_aload_n dX4_readAsk_68 rfl (by decide) ?_
          refine r_iload_n dX4_readAsk_69 rfl ?_
          refine r_cv1 dX4_readAsk_70 clX4_74 sf2 (by decide) (by decide) rfl (by first | decide | omega) (Nat.le_of_ble_eq_true rfl) ((h0 _ (h1.1.go hx))) ⟨Nat.zero_le _, Nat.zero_le _⟩ (fun _ => ?_)
          refine r_istore_n dX4_readAsk_73 rfl (by decide) st3 ?_
          refine r_aload_n dX4_readAsk_74 rfl (by decide) ?_
          refine r_getr (x := x) dX4_readAsk_75 flX4_25 sf2 (by decide) (by decide) rfl rfl ?_
          refine r_iload_n dX4_readAsk_78 rfl ?_
          refine r_iconst dX4_readAsk_79 (by decide) ?_
          refine r_cw2 dX4_readAsk_80 clX4_91 x0 (by omega) (by decide) rfl (by first | decide | omega) (Nat.le_of_ble_eq_true rfl) ((c_add hq hx h2.1.2.2.2.1)) ⟨Nat.zero_le _, Nat.zero_le _⟩ ?_
          refine r_iload_n dX4_readAsk_83 rfl ?_
          refine r_zret dX4_readAsk_84 rfl (by omega) ?_
          first | (exfalso; omega) | exact ⟨by show _ = some (0, (askB n x R o M).1); unfold askB; rw [if_neg (by first | omega | assumption), if_neg (by first | omega | assumption), if_neg (by first | omega | assumption)], rfl, by show _ = (askB n x R o M).2; unfold askB; rw [if_neg (by first | omega | assumption), if_neg (by first | omega | assumption), if_neg (by first | omega | assumption)]⟩
        · refine r_aload_n dX4_readAsk_58 rfl (by decide) ?_
          refine r_iconst dX4_readAsk_59 (by decide) ?_
          refine r_cv1 dX4_readAsk_60 clX4_50 sf2 (by decide) (by decide) rfl (by first | decide | omega) (Nat.le_of_ble_eq_true rfl) (c_refuse) ⟨Nat.zero_le _, Nat.zero_le _⟩ (fun _ => ?_)
          refine r_zret dX4_readAsk_63 rfl (by omega) ?_
          first | (exfalso; omega) | exact ⟨by show _ = some (0, (askB n x R o M).1); unfold askB; rw [if_neg (by first | omega | assumption), if_neg (by first | omega | assumption), if_pos (by first | omega | assumption)], rfl, by show _ = (askB n x R o M).2; unfold askB; rw [if_neg (by first | omega | assumption), if_neg (by first | omega | assumption), if_pos (by first | omega | assumption)]⟩
    · refine r_iconst dX4_readAsk_39 (by decide) ?_
      refine r_zret dX4_readAsk_40 rfl (by omega) ?_
      first | (exfalso; omega) | exact ⟨by show _ = some (0, (askB n x R o M).1); unfold askB; rw [if_neg (by first | omega | assumption), if_pos (by first | omega | assumption)], rfl, by show _ = (askB n x R o M).2; unfold askB; rw [if_neg (by first | omega | assumption), if_pos (by first | omega | assumption)]⟩
  · refine r_iload_n dX4_readAsk_9 rfl ?_
    refine r_bipush dX4_readAsk_10 (by decide) (by decide) ?_
    refine r_icmp_ge (tgt := 25) dX4_readAsk_12 (by decide) (fun h12 => ?_) (fun h12 => ?_)
    · refine r_aload_n dX4_readAsk_25 rfl (by decide) ?_
      refine r_iconst dX4_readAsk_26 (by decide) ?_
      refine r_cv1 dX4_readAsk_27 clX4_50 sf2 (by decide) (by decide) rfl (by first | decide | omega) (Nat.le_of_ble_eq_true rfl) (c_refuse) ⟨Nat.zero_le _, Nat.zero_le _⟩ (fun _ => ?_)
      refine r_zret dX4_readAsk_30 rfl (by omega) ?_
      first | (exfalso; omega) | exact ⟨by show _ = some (0, (askB n x R o M).1); unfold askB; rw [if_pos (by first | omega | assumption), if_pos (by first | omega | assumption)], rfl, by show _ = (askB n x R o M).2; unfold askB; rw [if_pos (by first | omega | assumption), if_pos (by first | omega | assumption)]⟩ | exact ⟨by show _ = some (0, (askB n x R o M).1); unfold askB; rw [if_pos (by first | omega | assumption), if_neg (by first | omega | assumption)], rfl, by show _ = (askB n x R o M).2; unfold askB; rw [if_pos (by first | omega | assumption), if_neg (by first | omega | assumption)]⟩
    · refine r_aload_n dX4_readAsk_15 rfl (by decide) ?_
      refine r_iload_n dX4_readAsk_16 rfl ?_
      refine r_iconst dX4_readAsk_17 (by decide) ?_
      refine r_iadd dX4_readAsk_18 (w32_id (by omega)) ?_
      refine r_cv1 dX4_readAsk_19 clX4_122 sf2 (by decide) (by decide) rfl (by first | decide | omega) (Nat.le_of_ble_eq_true rfl) ((h8 (by omega) M hP)) ⟨Nat.zero_le _, Nat.zero_le _⟩ (fun _ => ?_)
      refine r_goto (tgt := 30) dX4_readAsk_22 (by decide) ?_
      refine r_zret dX4_readAsk_30 rfl (by omega) ?_
      first | (exfalso; omega) | exact ⟨by show _ = some (0, (askB n x R o M).1); unfold askB; rw [if_pos (by first | omega | assumption), if_pos (by first | omega | assumption)], rfl, by show _ = (askB n x R o M).2; unfold askB; rw [if_pos (by first | omega | assumption), if_pos (by first | omega | assumption)]⟩ | exact ⟨by show _ = some (0, (askB n x R o M).1); unfold askB; rw [if_pos (by first | omega | assumption), if_neg (by first | omega | assumption)], rfl, by show _ = (askB n x R o M).2; unfold askB; rw [if_pos (by first | omega | assumption), if_neg (by first | omega | assumption)]⟩
theorem c_readNot {x y z : Int} (hq : TS (Sf x y z) x) (hx : 15 ≤ x ∧ x ≤ 39) {n : Nat} {D : Nat} (hD : 7 ≤ D) {o : Int} {R : RF} (hp : ∀ fn o k M, PR M x n → GP n x (R fn o k M)) (h7 : RC kX4_readAsk D x y z n [(0, o)] (R 7 o 0)) : RC kX4_readNot (D + 1) x y z n [(0, o)] (fun M => notB n x R o M) := by
  intro M hP
  obtain ⟨x0, x1, x2, x3, -, -, -, -, -⟩ := id hq
  have h1 := hp 7 o 0 _ (hP.go hx)
  have b1 := h1.2
  refine Con.ofV (al := [(1, 2), (0, o), (9, 0)]) 1 (by decide) (Nat.le_of_ble_eq_true rfl) rfl ?_
  refine r_aload_n dX4_readNot_0 rfl (by decide) ?_
  refine r_cw0 dX4_readNot_1 clX4_37 sf2 (by decide) (by decide) rfl (by first | decide | omega) (Nat.le_of_ble_eq_true rfl) ((c_go hP.1 hP.2.1 hP.2.2.1)) ⟨Nat.zero_le _, Nat.zero_le _⟩ ?_
  refine r_aload_n dX4_readNot_4 rfl (by decide) ?_
  refine r_iload_n dX4_readNot_5 rfl ?_
  refine r_cv1 dX4_readNot_6 clX4_119 sf2 (by decide) (by decide) rfl (by first | decide | omega) (Nat.le_of_ble_eq_true rfl) ((h7 _ (hP.go hx))) ⟨Nat.zero_le _, Nat.zero_le _⟩ (fun _ => ?_)
  refine r_istore_n dX4_readNot_9 rfl (by decide) st2 ?_
  refine r_aload_n dX4_readNot_10 rfl (by decide) ?_
  refine r_getr (x := x) dX4_readNot_11 flX4_25 sf2 (by decide) (by decide) rfl rfl ?_
  refine r_bipush dX4_readNot_14 (by decide) (by decide) ?_
  refine r_iconst dX4_readNot_16 (by decide) ?_
  refine r_cw2 dX4_readNot_17 clX4_91 x0 (by omega) (by decide) rfl (by first | decide | omega) (Nat.le_of_ble_eq_true rfl) ((c_add hq hx h1.1.2.2.2.1)) ⟨Nat.zero_le _, Nat.zero_le _⟩ ?_
  refine r_iload_n dX4_readNot_20 rfl ?_
  refine r_zret dX4_readNot_21 rfl (by omega) ?_
  exact ⟨rfl, rfl, rfl⟩
theorem c_readChoice {x y z : Int} (hq : TS (Sf x y z) x) (hx : 15 ≤ x ∧ x ≤ 39) {n : Nat} {D : Nat} (hD : 7 ≤ D) {o : Int} {R : RF} (hp : ∀ fn o k M, PR M x n → GP n x (R fn o k M)) (h5 : RC kX4_readEither D x y z n [(0, o)] (R 5 o 0)) (h0 : RC kX4_readSum D x y z n [(0, o)] (R 0 o 0)) : RC kX4_readChoice (D + 1) x y z n [(0, o)] (fun M => choB n x R o M) := by
  intro M hP
  obtain ⟨x0, x1, x2, x3, -, -, -, -, -⟩ := id hq
  have g1 := hp 5 o 0 M hP
  have g2 := GP.pk (due := 38) g1.1 hx
  have g3 := hp 0 o 0 _ g2.1
  have g4 := GP.pk (due := 39) g3.1 hx
  have g5 := hp 0 o 0 _ (g4.1.am hx (j := (R 5 o 0 M).2 x 1))
  have b1 := g1.2
  have b2 := g2.2
  have b3 := g3.2
  have b4 := g4.2
  have b5 := g5.2
  have b6 := (GP.pa (g5.1.am hx (j := (R 0 o 0 (pkC (R 5 o 0 M).2 x n 38).2).2 x 1)) hx (due := 40)).2
  refine Con.ofV (al := [(1, 2), (0, o), (9, 0), (9, 0)]) 2 (by decide) (Nat.le_of_ble_eq_true rfl) rfl ?_
  refine r_aload_n dX4_readChoice_0 rfl (by decide) ?_
  refine r_iload_n dX4_readChoice_1 rfl ?_
  refine r_cv1 dX4_readChoice_2 clX4_110 sf2 (by decide) (by decide) rfl (by first | decide | omega) (Nat.le_of_ble_eq_true rfl) ((h5 M hP)) ⟨Nat.zero_le _, Nat.zero_le _⟩ (fun _ => ?_)
  refine r_if_ne (tgt := 10) dX4_readChoice_5 (by decide) (fun h5 => ?_) (fun h5 => ?_)
  · refine r_aload_n dX4_readChoice_10 rfl (by decide) ?_
    refine r_getr (x := x) dX4_readChoice_11 flX4_25 sf2 (by decide) (by decide) rfl rfl ?_
    refine r_gi 1 dX4_readChoice_14 flX4_73 x0 (by decide) (by omega) rfl rfl rfl ?_
    refine r_istore_n dX4_readChoice_17 rfl (by decide) st2 ?_
    refine r_aload_n dX4_readChoice_18 rfl (by decide) ?_
    refine r_bipush dX4_readChoice_19 (by decide) (by decide) ?_
    refine r_cv1 dX4_readChoice_21 clX4_77 sf2 (by decide) (by decide) rfl (by first | decide | omega) (Nat.le_of_ble_eq_true rfl) ((c_passKept hq hx g1.1)) ⟨Nat.zero_le _, Nat.zero_le _⟩ (fun _ => ?_)
    refine r_if_eq (tgt := 35) dX4_readChoice_24 (by decide) (fun h24 => ?_) (fun h24 => ?_)
    · refine r_iconst dX4_readChoice_35 (by decide) ?_
      refine r_zret dX4_readChoice_36 rfl (by omega) ?_
      first | exact ⟨by show _ = some (0, (choB n x R o M).1); unfold choB; dsimp only; rw [if_neg (by first | omega | assumption), if_pos (by first | omega | assumption)], rfl, by show _ = (choB n x R o M).2; unfold choB; dsimp only; rw [if_neg (by first | omega | assumption), if_pos (by first | omega | assumption)]⟩ | exact ⟨by show _ = some (0, (choB n x R o M).1); unfold choB; dsimp only; rw [if_neg (by first | omega | assumption), if_neg (by first | omega | assumption), if_pos (by first | omega | assumption)], rfl, by show _ = (choB n x R o M).2; unfold choB; dsimp only; rw [if_neg (by first | omega | assumption), if_neg (by first | omega | assumption), if_pos (by first | omega | assumption)]⟩
    · refine r_aload_n dX4_readChoice_27 rfl (by decide) ?_
      refine r_iload_n dX4_readChoice_28 rfl ?_
      refine r_cv1 dX4_readChoice_29 clX4_74 sf2 (by decide) (by decide) rfl (by first | decide | omega) (Nat.le_of_ble_eq_true rfl) ((h0 _ g2.1)) ⟨Nat.zero_le _, Nat.zero_le _⟩ (fun _ => ?_)
      refine r_if_ne (tgt := 37) dX4_readChoice_32 (by decide) (fun h32 => ?_) (fun h32 => ?_)
      · refine r_aload_n dX4_readChoice_37 rfl (by decide) ?_
        refine r_getr (x := x) dX4_readChoice_38 flX4_25 sf2 (by decide) (by decide) rfl rfl ?_
        refine r_gi 1 dX4_readChoice_41 flX4_73 x0 (by decide) (by omega) rfl rfl rfl ?_
        refine r_istore_n dX4_readChoice_44 rfl (by decide) st3 ?_
        refine r_aload_n dX4_readChoice_45 rfl (by decide) ?_
        refine r_bipush dX4_readChoice_46 (by decide) (by decide) ?_
        refine r_cv1 dX4_readChoice_48 clX4_77 sf2 (by decide) (by decide) rfl (by first | decide | omega) (Nat.le_of_ble_eq_true rfl) ((c_passKept hq hx g3.1)) ⟨Nat.zero_le _, Nat.zero_le _⟩ (fun _ => ?_)
        refine r_if_ne (tgt := 56) dX4_readChoice_51 (by decide) (fun h51 => ?_) (fun h51 => ?_)
        · refine r_aload_n dX4_readChoice_56 rfl (by decide) ?_
          refine r_getr (x := x) dX4_readChoice_57 flX4_25 sf2 (by decide) (by decide) rfl rfl ?_
          refine r_iload_n dX4_readChoice_60 rfl ?_
          refine r_cw1 dX4_readChoice_61 clX4_113 x0 (by omega) (by decide) rfl (by first | decide | omega) (Nat.le_of_ble_eq_true rfl) ((c_aim hq hx g4.1.2.2.2.1)) ⟨Nat.zero_le _, Nat.zero_le _⟩ ?_
          refine r_aload_n dX4_readChoice_64 rfl (by decide) ?_
          refine r_iload_n dX4_readChoice_65 rfl ?_
          refine r_cv1 dX4_readChoice_66 clX4_74 sf2 (by decide) (by decide) rfl (by first | decide | omega) (Nat.le_of_ble_eq_true rfl) ((h0 _ (g4.1.am hx))) ⟨Nat.zero_le _, Nat.zero_le _⟩ (fun _ => ?_)
          refine r_if_ne (tgt := 74) dX4_readChoice_69 (by decide) (fun h69 => ?_) (fun h69 => ?_)
          · refine r_aload_n dX4_readChoice_74 rfl (by decide) ?_
            refine r_getr (x := x) dX4_readChoice_75 flX4_25 sf2 (by decide) (by decide) rfl rfl ?_
            refine r_iload_n dX4_readChoice_78 rfl ?_
            refine r_cw1 dX4_readChoice_79 clX4_113 x0 (by omega) (by decide) rfl (by first | decide | omega) (Nat.le_of_ble_eq_true rfl) ((c_aim hq hx g5.1.2.2.2.1)) ⟨Nat.zero_le _, Nat.zero_le _⟩ ?_
            refine r_aload_n dX4_readChoice_82 rfl (by decide) ?_
            refine r_bipush dX4_readChoice_83 (by decide) (by decide) ?_
            refine r_cv1 dX4_readChoice_85 clX4_70 sf2 (by decide) (by decide) rfl (by first | decide | omega) (Nat.le_of_ble_eq_true rfl) ((c_pass hq hx (g5.1.am hx))) ⟨Nat.zero_le _, Nat.zero_le _⟩ (fun _ => ?_)
            refine r_zret dX4_readChoice_88 rfl (by omega) ?_
            first | exact ⟨by show _ = some (0, (choB n x R o M).1); unfold choB; dsimp only; rw [if_neg (by first | omega | assumption), if_neg (by first | omega | assumption), if_neg (by first | omega | assumption), if_neg (by first | omega | assumption), if_neg (by first | omega | assumption)], rfl, by show _ = (choB n x R o M).2; unfold choB; dsimp only; rw [if_neg (by first | omega | assumption), if_neg (by first | omega | assumption), if_neg (by first | omega | assumption), if_neg (by first | omega | assumption), if_neg (by first | omega | assumption)]⟩
          · refine r_iconst dX4_readChoice_72 (by decide) ?_
            refine r_zret dX4_readChoice_73 rfl (by omega) ?_
            first | exact ⟨by show _ = some (0, (choB n x R o M).1); unfold choB; dsimp only; rw [if_neg (by first | omega | assumption), if_neg (by first | omega | assumption), if_neg (by first | omega | assumption), if_neg (by first | omega | assumption), if_pos (by first | omega | assumption)], rfl, by show _ = (choB n x R o M).2; unfold choB; dsimp only; rw [if_neg (by first | omega | assumption), if_neg (by first | omega | assumption), if_neg (by first | omega | assumption), if_neg (by first | omega | assumption), if_pos (by first | omega | assumption)]⟩
        · refine r_iconst dX4_readChoice_54 (by decide) ?_
          refine r_zret dX4_readChoice_55 rfl (by omega) ?_
          first | exact ⟨by show _ = some (0, (choB n x R o M).1); unfold choB; dsimp only; rw [if_neg (by first | omega | assumption), if_neg (by first | omega | assumption), if_neg (by first | omega | assumption), if_pos (by first | omega | assumption)], rfl, by show _ = (choB n x R o M).2; unfold choB; dsimp only; rw [if_neg (by first | omega | assumption), if_neg (by first | omega | assumption), if_neg (by first | omega | assumption), if_pos (by first | omega | assumption)]⟩
      · refine r_iconst dX4_readChoice_35 (by decide) ?_
        refine r_zret dX4_readChoice_36 rfl (by omega) ?_
        first | exact ⟨by show _ = some (0, (choB n x R o M).1); unfold choB; dsimp only; rw [if_neg (by first | omega | assumption), if_pos (by first | omega | assumption)], rfl, by show _ = (choB n x R o M).2; unfold choB; dsimp only; rw [if_neg (by first | omega | assumption), if_pos (by first | omega | assumption)]⟩ | exact ⟨by show _ = some (0, (choB n x R o M).1); unfold choB; dsimp only; rw [if_neg (by first | omega | assumption), if_neg (by first | omega | assumption), if_pos (by first | omega | assumption)], rfl, by show _ = (choB n x R o M).2; unfold choB; dsimp only; rw [if_neg (by first | omega | assumption), if_neg (by first | omega | assumption), if_pos (by first | omega | assumption)]⟩
  · refine r_iconst dX4_readChoice_8 (by decide) ?_
    refine r_zret dX4_readChoice_9 rfl (by omega) ?_
    first | exact ⟨by show _ = some (0, (choB n x R o M).1); unfold choB; dsimp only; rw [if_pos (by first | omega | assumption)], rfl, by show _ = (choB n x R o M).2; unfold choB; dsimp only; rw [if_pos (by first | omega | assumption)]⟩
/-- the reading of a law, all of it -/
theorem c_rd {x y z : Int} (hq : TS (Sf x y z) x) (hx : 15 ≤ x ∧ x ≤ 39) {n : Nat} : ∀ (f : Nat) (o : Int), 0 ≤ o ∧ o ≤ 8 → (10 * (8 - o) + 3 ≤ (f : Int) → RC kX4_readSum (f + 8) x y z n [(0, o)] (rdC n x f 0 o 0)) ∧ (10 * (8 - o) + 2 ≤ (f : Int) → RC kX4_readProduct (f + 8) x y z n [(0, o)] (rdC n x f 1 o 0)) ∧ (10 * (8 - o) + 1 ≤ (f : Int) → RC kX4_readOne (f + 8) x y z n [(0, o)] (rdC n x f 2 o 0)) ∧ (10 * (8 - o) + 7 ≤ (f : Int) → RC kX4_readChoice (f + 8) x y z n [(0, o)] (rdC n x f 4 o 0)) ∧ (10 * (8 - o) + 6 ≤ (f : Int) → RC kX4_readEither (f + 8) x y z n [(0, o)] (rdC n x f 5 o 0)) ∧ (10 * (8 - o) + 5 ≤ (f : Int) → RC kX4_readBoth (f + 8) x y z n [(0, o)] (rdC n x f 6 o 0)) ∧ (10 * (8 - o) + 4 ≤ (f : Int) → RC kX4_readAsk (f + 8) x y z n [(0, o)] (rdC n x f 7 o 0)) ∧ (10 * (8 - o) + 5 ≤ (f : Int) → RC kX4_readNot (f + 8) x y z n [(0, o)] (rdC n x f 8 o 0)) ∧ (10 * (8 - o) + 2 ≤ (f : Int) → ∀ k : Int, RC kX4_readChanged (f + 8) x y z n [(0, k), (0, o)] (rdC n x f 3 o k)) := by
  intro f
  induction f with
  | zero => intro o ho; exact ⟨fun h => by exfalso; omega, fun h => by exfalso; omega, fun h => by exfalso; omega, fun h => by exfalso; omega, fun h => by exfalso; omega, fun h => by exfalso; omega, fun h => by exfalso; omega, fun h => by exfalso; omega, fun h => by exfalso; omega⟩
  | succ f ih =>
    intro o ho
    have hp := GP.rd (n := n) hx f
    obtain ⟨i0, i1, i2, i4, i5, i6, i7, i8, i3⟩ := ih o ho
    have i' := fun q : o < 8 => ih (o + 1) (by omega)
    refine ⟨fun h => ?_, fun h => ?_, fun h => ?_, fun h => ?_, fun h => ?_, fun h => ?_, fun h => ?_, fun h => ?_, fun h k => ?_⟩
    · exact c_readSum hq hx (by omega) (i1 (by omega)) (fun M q => hp 1 o 0 M q)
    · exact c_readProduct hq hx (by omega) (i2 (by omega)) (fun M q => hp 2 o 0 M q)
    · exact c_readOne hq hx (by omega) hp (fun q => (i' q).2.2.2.1 (by omega)) (fun q => (i' q).1 (by omega)) (fun q k => (i' q).2.2.2.2.2.2.2.2 (by omega) k) ho
    · exact c_readChoice hq hx (by omega) hp (i5 (by omega)) (i0 (by omega))
    · exact c_readEither hq hx (by omega) (i6 (by omega)) (fun M q => hp 6 o 0 M q)
    · exact c_readBoth hq hx (by omega) (i7 (by omega)) (fun M q => hp 7 o 0 M q)
    · exact c_readAsk hq hx (by omega) hp (i0 (by omega)) (fun q => (i' q).2.2.2.2.2.2.2.1 (by omega)) ho
    · exact c_readNot hq hx (by omega) hp (i7 (by omega))
    · exact c_readChanged hq hx (by omega) hp (i2 (by omega))
