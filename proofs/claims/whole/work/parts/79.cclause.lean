/-- go on where the part before was read -/
def thR (r : RV) (f : Me → RV) : RV := if r.1 = 0 then (0, r.2) else f r.2
theorem thR_0 {r : RV} {f : Me → RV} (h : r.1 = 0) : thR r f = (0, r.2) := if_pos h
theorem thR_1 {r : RV} {f : Me → RV} (h : r.1 ≠ 0) : thR r f = f r.2 := if_neg h
theorem GP.th {n : Nat} {x : Int} {r : RV} {f : Me → RV} (h : GP n x r) (hf : ∀ M, PR M x n → GP n x (f M)) : GP n x (thR r f) := by
  unfold thR
  split
  · exact GP.z h.1
  · exact hf _ h.1
theorem GP.rn {M : Me} {x : Int} {n : Nat} (h : PR M x n) (hx : 15 ≤ x ∧ x ≤ 39) {i l m : Int} : GP n x (rnC M x n i l m) := ⟨h.rn hx, by unfold rnC; (repeat' split) <;> simp⟩
theorem GP.o {x : Int} {n : Nat} {M : Me} (h : PR M x n) : GP n x (1, M) := ⟨h, Or.inr rfl⟩
def deC (M : Me) (x : Int) (n : Nat) (k : Int) : RV :=
  if k = 19 then thR (rnC M x n 0 0 2) fun A => thR (paC A n 32) fun A => thR (rnC A x n 1 0 9999) fun A => (1, A)
  else if k = 20 then thR (rnC M x n 0 0 4) fun A => thR (paC A n 29) fun A => thR (rnC A x n 1 0 99) fun A => thR (paC A n 30) fun A => thR (rnC A x n 2 1 9) fun A => (1, A)
  else if k = 21 then thR (rnC M x n 0 0 11) fun A => thR (paC A n 34) fun A => thR (rnC A x n 1 0 11) fun A => (1, A)
  else if k = 24 then rnC M x n 0 1 9
  else if k = 25 then rnC M x n 0 0 9
  else if k = 26 then rnC M x n 0 1 60
  else rnC M x n 0 0 11
theorem GP.de {M : Me} {x : Int} {n : Nat} (h : PR M x n) (hx : 15 ≤ x ∧ x ≤ 39) {k : Int} : GP n x (deC M x n k) := by
  unfold deC
  (repeat' split)
  · exact GP.th (GP.rn h hx) fun A a => GP.th (GP.pa a hx) fun B b => GP.th (GP.rn b hx) fun C c => GP.o c
  · exact GP.th (GP.rn h hx) fun A a => GP.th (GP.pa a hx) fun B b => GP.th (GP.rn b hx) fun C c => GP.th (GP.pa c hx) fun D d => GP.th (GP.rn d hx) fun E e => GP.o e
  · exact GP.th (GP.rn h hx) fun A a => GP.th (GP.pa a hx) fun B b => GP.th (GP.rn b hx) fun C c => GP.o c
  · exact GP.rn h hx
  · exact GP.rn h hx
  · exact GP.rn h hx
  · exact GP.rn h hx
theorem c_readDeed {x y z : Int} {M : Me} (hq : TS (Sf x y z) x) (hx : 15 ≤ x ∧ x ≤ 39) {n : Nat} (hP : PR M x n) {k : Int} : Con kX4_readDeed 7 0 0 [(1, 2), (0, k)] (Sf x y z) M (Ex (some (0, (deC M x n k).1)) (Sf x y z) (deC M x n k).2) := by
  refine Con.ofV (al := [(1, 2), (0, k)]) 0 (by decide) (Nat.le_of_ble_eq_true rfl) rfl ?_
  obtain ⟨x0, x1, x2, x3, -, -, -, -, -⟩ := id hq
  have p1 : PR (rnC M x n 0 0 2).2 x n := hP.rn hx
  have p2 : PR (paC (rnC M x n 0 0 2).2 n 32).2 x n := p1.pa hx
  have q1 : PR (rnC M x n 0 0 4).2 x n := hP.rn hx
  have q2 : PR (paC (rnC M x n 0 0 4).2 n 29).2 x n := q1.pa hx
  have q3 : PR (rnC (paC (rnC M x n 0 0 4).2 n 29).2 x n 1 0 99).2 x n := q2.rn hx
  have q4 : PR (paC (rnC (paC (rnC M x n 0 0 4).2 n 29).2 x n 1 0 99).2 n 30).2 x n := q3.pa hx
  have r1 : PR (rnC M x n 0 0 11).2 x n := hP.rn hx
  have r2 : PR (paC (rnC M x n 0 0 11).2 n 34).2 x n := r1.pa hx
  have v1 := (GP.rn hP hx (i := 0) (l := 1) (m := 9)).2
  have v2 := (GP.rn hP hx (i := 0) (l := 0) (m := 9)).2
  have v3 := (GP.rn hP hx (i := 0) (l := 1) (m := 60)).2
  have v4 := (GP.rn hP hx (i := 0) (l := 0) (m := 11)).2
  refine r_iload_n dX4_readDeed_0 rfl ?_
  rcases (show (k < 19 ∨ 26 < k) ∨ k = 19 ∨ k = 20 ∨ k = 21 ∨ k = 22 ∨ k = 23 ∨ k = 24 ∨ k = 25 ∨ k = 26 by omega) with hsw | hsw | hsw | hsw | hsw | hsw | hsw | hsw | hsw
  · refine r_tabOut (tgt := 205) dX4_readDeed_1 hsw (by decide) ?_
    refine r_aload_n dX4_readDeed_205 rfl (by decide) ?_
    refine r_iconst dX4_readDeed_206 (by decide) ?_
    refine r_iconst dX4_readDeed_207 (by decide) ?_
    refine r_bipush dX4_readDeed_208 (by decide) (by decide) ?_
    refine r_cv3 dX4_readDeed_210 clX4_80 sf2 (by decide) (by decide) rfl (by first | decide | omega) (Nat.le_of_ble_eq_true rfl) ((c_readNumber hq hx hP)) ⟨Nat.zero_le _, Nat.zero_le _⟩ (fun _ => ?_)
    refine r_zret dX4_readDeed_213 rfl (by omega) ?_
    first | (exfalso; omega) | exact ⟨by show _ = some (0, (deC M x n k).1); unfold deC; rw [if_neg (by first | omega | assumption), if_neg (by first | omega | assumption), if_neg (by first | omega | assumption), if_neg (by first | omega | assumption), if_neg (by first | omega | assumption), if_neg (by first | omega | assumption)], rfl, by show _ = (deC M x n k).2; unfold deC; rw [if_neg (by first | omega | assumption), if_neg (by first | omega | assumption), if_neg (by first | omega | assumption), if_neg (by first | omega | assumption), if_neg (by first | omega | assumption), if_neg (by first | omega | assumption)]⟩
  · refine r_tabEq (tgt := 48) dX4_readDeed_1 hsw (by decide) (by decide) rfl (by decide) ?_
    refine r_aload_n dX4_readDeed_48 rfl (by decide) ?_
    refine r_iconst dX4_readDeed_49 (by decide) ?_
    refine r_iconst dX4_readDeed_50 (by decide) ?_
    refine r_iconst dX4_readDeed_51 (by decide) ?_
    refine r_cv3 dX4_readDeed_52 clX4_80 sf2 (by decide) (by decide) rfl (by first | decide | omega) (Nat.le_of_ble_eq_true rfl) ((c_readNumber hq hx hP)) ⟨Nat.zero_le _, Nat.zero_le _⟩ (fun _ => ?_)
    refine r_if_eq (tgt := 83) dX4_readDeed_55 (by decide) (fun h55 => ?_) (fun h55 => ?_)
    · refine r_iconst dX4_readDeed_83 (by decide) ?_
      refine r_zret dX4_readDeed_84 rfl (by omega) ?_
      first | (exfalso; omega) | exact ⟨by show _ = some (0, (deC M x n k).1); unfold deC; rw [if_pos (by first | omega | assumption), thR_0 (by assumption)], rfl, by show _ = (deC M x n k).2; unfold deC; rw [if_pos (by first | omega | assumption), thR_0 (by assumption)]⟩ | exact ⟨by show _ = some (0, (deC M x n k).1); unfold deC; rw [if_pos (by first | omega | assumption), thR_1 (by assumption), thR_0 (by assumption)], rfl, by show _ = (deC M x n k).2; unfold deC; rw [if_pos (by first | omega | assumption), thR_1 (by assumption), thR_0 (by assumption)]⟩ | exact ⟨by show _ = some (0, (deC M x n k).1); unfold deC; rw [if_pos (by first | omega | assumption), thR_1 (by assumption), thR_1 (by assumption), thR_0 (by assumption)], rfl, by show _ = (deC M x n k).2; unfold deC; rw [if_pos (by first | omega | assumption), thR_1 (by assumption), thR_1 (by assumption), thR_0 (by assumption)]⟩ | exact ⟨by show _ = some (0, (deC M x n k).1); unfold deC; rw [if_pos (by first | omega | assumption), thR_1 (by assumption), thR_1 (by assumption), thR_1 (by assumption)], rfl, by show _ = (deC M x n k).2; unfold deC; rw [if_pos (by first | omega | assumption), thR_1 (by assumption), thR_1 (by assumption), thR_1 (by assumption)]⟩
    · refine r_aload_n dX4_readDeed_58 rfl (by decide) ?_
      refine r_bipush dX4_readDeed_59 (by decide) (by decide) ?_
      refine r_cv1 dX4_readDeed_61 clX4_70 sf2 (by decide) (by decide) rfl (by first | decide | omega) (Nat.le_of_ble_eq_true rfl) ((c_pass hq hx p1)) ⟨Nat.zero_le _, Nat.zero_le _⟩ (fun _ => ?_)
      refine r_if_eq (tgt := 83) dX4_readDeed_64 (by decide) (fun h64 => ?_) (fun h64 => ?_)
      · refine r_iconst dX4_readDeed_83 (by decide) ?_
        refine r_zret dX4_readDeed_84 rfl (by omega) ?_
        first | (exfalso; omega) | exact ⟨by show _ = some (0, (deC M x n k).1); unfold deC; rw [if_pos (by first | omega | assumption), thR_0 (by assumption)], rfl, by show _ = (deC M x n k).2; unfold deC; rw [if_pos (by first | omega | assumption), thR_0 (by assumption)]⟩ | exact ⟨by show _ = some (0, (deC M x n k).1); unfold deC; rw [if_pos (by first | omega | assumption), thR_1 (by assumption), thR_0 (by assumption)], rfl, by show _ = (deC M x n k).2; unfold deC; rw [if_pos (by first | omega | assumption), thR_1 (by assumption), thR_0 (by assumption)]⟩ | exact ⟨by show _ = some (0, (deC M x n k).1); unfold deC; rw [if_pos (by first | omega | assumption), thR_1 (by assumption), thR_1 (by assumption), thR_0 (by assumption)], rfl, by show _ = (deC M x n k).2; unfold deC; rw [if_pos (by first | omega | assumption), thR_1 (by assumption), thR_1 (by assumption), thR_0 (by assumption)]⟩ | exact ⟨by show _ = some (0, (deC M x n k).1); unfold deC; rw [if_pos (by first | omega | assumption), thR_1 (by assumption), thR_1 (by assumption), thR_1 (by assumption)], rfl, by show _ = (deC M x n k).2; unfold deC; rw [if_pos (by first | omega | assumption), thR_1 (by assumption), thR_1 (by assumption), thR_1 (by assumption)]⟩
      · refine r_aload_n dX4_readDeed_67 rfl (by decide) ?_
        refine r_iconst dX4_readDeed_68 (by decide) ?_
        refine r_iconst dX4_readDeed_69 (by decide) ?_
        refine r_sipush dX4_readDeed_70 (by decide) (by decide) ?_
        refine r_cv3 dX4_readDeed_73 clX4_80 sf2 (by decide) (by decide) rfl (by first | decide | omega) (Nat.le_of_ble_eq_true rfl) ((c_readNumber hq hx p2)) ⟨Nat.zero_le _, Nat.zero_le _⟩ (fun _ => ?_)
        refine r_if_eq (tgt := 83) dX4_readDeed_76 (by decide) (fun h76 => ?_) (fun h76 => ?_)
        · refine r_iconst dX4_readDeed_83 (by decide) ?_
          refine r_zret dX4_readDeed_84 rfl (by omega) ?_
          first | (exfalso; omega) | exact ⟨by show _ = some (0, (deC M x n k).1); unfold deC; rw [if_pos (by first | omega | assumption), thR_0 (by assumption)], rfl, by show _ = (deC M x n k).2; unfold deC; rw [if_pos (by first | omega | assumption), thR_0 (by assumption)]⟩ | exact ⟨by show _ = some (0, (deC M x n k).1); unfold deC; rw [if_pos (by first | omega | assumption), thR_1 (by assumption), thR_0 (by assumption)], rfl, by show _ = (deC M x n k).2; unfold deC; rw [if_pos (by first | omega | assumption), thR_1 (by assumption), thR_0 (by assumption)]⟩ | exact ⟨by show _ = some (0, (deC M x n k).1); unfold deC; rw [if_pos (by first | omega | assumption), thR_1 (by assumption), thR_1 (by assumption), thR_0 (by assumption)], rfl, by show _ = (deC M x n k).2; unfold deC; rw [if_pos (by first | omega | assumption), thR_1 (by assumption), thR_1 (by assumption), thR_0 (by assumption)]⟩ | exact ⟨by show _ = some (0, (deC M x n k).1); unfold deC; rw [if_pos (by first | omega | assumption), thR_1 (by assumption), thR_1 (by assumption), thR_1 (by assumption)], rfl, by show _ = (deC M x n k).2; unfold deC; rw [if_pos (by first | omega | assumption), thR_1 (by assumption), thR_1 (by assumption), thR_1 (by assumption)]⟩
        · refine r_iconst dX4_readDeed_79 (by decide) ?_
          refine r_goto (tgt := 84) dX4_readDeed_80 (by decide) ?_
          refine r_zret dX4_readDeed_84 rfl (by omega) ?_
          first | (exfalso; omega) | exact ⟨by show _ = some (0, (deC M x n k).1); unfold deC; rw [if_pos (by first | omega | assumption), thR_0 (by assumption)], rfl, by show _ = (deC M x n k).2; unfold deC; rw [if_pos (by first | omega | assumption), thR_0 (by assumption)]⟩ | exact ⟨by show _ = some (0, (deC M x n k).1); unfold deC; rw [if_pos (by first | omega | assumption), thR_1 (by assumption), thR_0 (by assumption)], rfl, by show _ = (deC M x n k).2; unfold deC; rw [if_pos (by first | omega | assumption), thR_1 (by assumption), thR_0 (by assumption)]⟩ | exact ⟨by show _ = some (0, (deC M x n k).1); unfold deC; rw [if_pos (by first | omega | assumption), thR_1 (by assumption), thR_1 (by assumption), thR_0 (by assumption)], rfl, by show _ = (deC M x n k).2; unfold deC; rw [if_pos (by first | omega | assumption), thR_1 (by assumption), thR_1 (by assumption), thR_0 (by assumption)]⟩ | exact ⟨by show _ = some (0, (deC M x n k).1); unfold deC; rw [if_pos (by first | omega | assumption), thR_1 (by assumption), thR_1 (by assumption), thR_1 (by assumption)], rfl, by show _ = (deC M x n k).2; unfold deC; rw [if_pos (by first | omega | assumption), thR_1 (by assumption), thR_1 (by assumption), thR_1 (by assumption)]⟩
  · refine r_tabEq (tgt := 85) dX4_readDeed_1 hsw (by decide) (by decide) rfl (by decide) ?_
    refine r_aload_n dX4_readDeed_85 rfl (by decide) ?_
    refine r_iconst dX4_readDeed_86 (by decide) ?_
    refine r_iconst dX4_readDeed_87 (by decide) ?_
    refine r_iconst dX4_readDeed_88 (by decide) ?_
    refine r_cv3 dX4_readDeed_89 clX4_80 sf2 (by decide) (by decide) rfl (by first | decide | omega) (Nat.le_of_ble_eq_true rfl) ((c_readNumber hq hx hP)) ⟨Nat.zero_le _, Nat.zero_le _⟩ (fun _ => ?_)
    refine r_if_eq (tgt := 139) dX4_readDeed_92 (by decide) (fun h92 => ?_) (fun h92 => ?_)
    · refine r_iconst dX4_readDeed_139 (by decide) ?_
      refine r_zret dX4_readDeed_140 rfl (by omega) ?_
      first | (exfalso; omega) | exact ⟨by show _ = some (0, (deC M x n k).1); unfold deC; rw [if_neg (by first | omega | assumption), if_pos (by first | omega | assumption), thR_0 (by assumption)], rfl, by show _ = (deC M x n k).2; unfold deC; rw [if_neg (by first | omega | assumption), if_pos (by first | omega | assumption), thR_0 (by assumption)]⟩ | exact ⟨by show _ = some (0, (deC M x n k).1); unfold deC; rw [if_neg (by first | omega | assumption), if_pos (by first | omega | assumption), thR_1 (by assumption), thR_0 (by assumption)], rfl, by show _ = (deC M x n k).2; unfold deC; rw [if_neg (by first | omega | assumption), if_pos (by first | omega | assumption), thR_1 (by assumption), thR_0 (by assumption)]⟩ | exact ⟨by show _ = some (0, (deC M x n k).1); unfold deC; rw [if_neg (by first | omega | assumption), if_pos (by first | omega | assumption), thR_1 (by assumption), thR_1 (by assumption), thR_0 (by assumption)], rfl, by show _ = (deC M x n k).2; unfold deC; rw [if_neg (by first | omega | assumption), if_pos (by first | omega | assumption), thR_1 (by assumption), thR_1 (by assumption), thR_0 (by assumption)]⟩ | exact ⟨by show _ = some (0, (deC M x n k).1); unfold deC; rw [if_neg (by first | omega | assumption), if_pos (by first | omega | assumption), thR_1 (by assumption), thR_1 (by assumption), thR_1 (by assumption), thR_0 (by assumption)], rfl, by show _ = (deC M x n k).2; unfold deC; rw [if_neg (by first | omega | assumption), if_pos (by first | omega | assumption), thR_1 (by assumption), thR_1 (by assumption), thR_1 (by assumption), thR_0 (by assumption)]⟩ | exact ⟨by show _ = some (0, (deC M x n k).1); unfold deC; rw [if_neg (by first | omega | assumption), if_pos (by first | omega | assumption), thR_1 (by assumption), thR_1 (by assumption), thR_1 (by assumption), thR_1 (by assumption), thR_0 (by assumption)], rfl, by show _ = (deC M x n k).2; unfold deC; rw [if_neg (by first | omega | assumption), if_pos (by first | omega | assumption), thR_1 (by assumption), thR_1 (by assumption), thR_1 (by assumption), thR_1 (by assumption), thR_0 (by assumption)]⟩ | exact ⟨by show _ = some (0, (deC M x n k).1); unfold deC; rw [if_neg (by first | omega | assumption), if_pos (by first | omega | assumption), thR_1 (by assumption), thR_1 (by assumption), thR_1 (by assumption), thR_1 (by assumption), thR_1 (by assumption)], rfl, by show _ = (deC M x n k).2; unfold deC; rw [if_neg (by first | omega | assumption), if_pos (by first | omega | assumption), thR_1 (by assumption), thR_1 (by assumption), thR_1 (by assumption), thR_1 (by assumption), thR_1 (by assumption)]⟩
    · refine r_aload_n dX4_readDeed_95 rfl (by decide) ?_
      refine r_bipush dX4_readDeed_96 (by decide) (by decide) ?_
      refine r_cv1 dX4_readDeed_98 clX4_70 sf2 (by decide) (by decide) rfl (by first | decide | omega) (Nat.le_of_ble_eq_true rfl) ((c_pass hq hx q1)) ⟨Nat.zero_le _, Nat.zero_le _⟩ (fun _ => ?_)
      refine r_if_eq (tgt := 139) dX4_readDeed_101 (by decide) (fun h101 => ?_) (fun h101 => ?_)
      · refine r_iconst dX4_readDeed_139 (by decide) ?_
        refine r_zret dX4_readDeed_140 rfl (by omega) ?_
        first | (exfalso; omega) | exact ⟨by show _ = some (0, (deC M x n k).1); unfold deC; rw [if_neg (by first | omega | assumption), if_pos (by first | omega | assumption), thR_0 (by assumption)], rfl, by show _ = (deC M x n k).2; unfold deC; rw [if_neg (by first | omega | assumption), if_pos (by first | omega | assumption), thR_0 (by assumption)]⟩ | exact ⟨by show _ = some (0, (deC M x n k).1); unfold deC; rw [if_neg (by first | omega | assumption), if_pos (by first | omega | assumption), thR_1 (by assumption), thR_0 (by assumption)], rfl, by show _ = (deC M x n k).2; unfold deC; rw [if_neg (by first | omega | assumption), if_pos (by first | omega | assumption), thR_1 (by assumption), thR_0 (by assumption)]⟩ | exact ⟨by show _ = some (0, (deC M x n k).1); unfold deC; rw [if_neg (by first | omega | assumption), if_pos (by first | omega | assumption), thR_1 (by assumption), thR_1 (by assumption), thR_0 (by assumption)], rfl, by show _ = (deC M x n k).2; unfold deC; rw [if_neg (by first | omega | assumption), if_pos (by first | omega | assumption), thR_1 (by assumption), thR_1 (by assumption), thR_0 (by assumption)]⟩ | exact ⟨by show _ = some (0, (deC M x n k).1); unfold deC; rw [if_neg (by first | omega | assumption), if_pos (by first | omega | assumption), thR_1 (by assumption), thR_1 (by assumption), thR_1 (by assumption), thR_0 (by assumption)], rfl, by show _ = (deC M x n k).2; unfold deC; rw [if_neg (by first | omega | assumption), if_pos (by first | omega | assumption), thR_1 (by assumption), thR_1 (by assumption), thR_1 (by assumption), thR_0 (by assumption)]⟩ | exact ⟨by show _ = some (0, (deC M x n k).1); unfold deC; rw [if_neg (by first | omega | assumption), if_pos (by first | omega | assumption), thR_1 (by assumption), thR_1 (by assumption), thR_1 (by assumption), thR_1 (by assumption), thR_0 (by assumption)], rfl, by show _ = (deC M x n k).2; unfold deC; rw [if_neg (by first | omega | assumption), if_pos (by first | omega | assumption), thR_1 (by assumption), thR_1 (by assumption), thR_1 (by assumption), thR_1 (by assumption), thR_0 (by assumption)]⟩ | exact ⟨by show _ = some (0, (deC M x n k).1); unfold deC; rw [if_neg (by first | omega | assumption), if_pos (by first | omega | assumption), thR_1 (by assumption), thR_1 (by assumption), thR_1 (by assumption), thR_1 (by assumption), thR_1 (by assumption)], rfl, by show _ = (deC M x n k).2; unfold deC; rw [if_neg (by first | omega | assumption), if_pos (by first | omega | assumption), thR_1 (by assumption), thR_1 (by assumption), thR_1 (by assumption), thR_1 (by assumption), thR_1 (by assumption)]⟩
      · refine r_aload_n dX4_readDeed_104 rfl (by decide) ?_
        refine r_iconst dX4_readDeed_105 (by decide) ?_
        refine r_iconst dX4_readDeed_106 (by decide) ?_
        refine r_bipush dX4_readDeed_107 (by decide) (by decide) ?_
        refine r_cv3 dX4_readDeed_109 clX4_80 sf2 (by decide) (by decide) rfl (by first | decide | omega) (Nat.le_of_ble_eq_true rfl) ((c_readNumber hq hx q2)) ⟨Nat.zero_le _, Nat.zero_le _⟩ (fun _ => ?_)
        refine r_if_eq (tgt := 139) dX4_readDeed_112 (by decide) (fun h112 => ?_) (fun h112 => ?_)
        · refine r_iconst dX4_readDeed_139 (by decide) ?_
          refine r_zret dX4_readDeed_140 rfl (by omega) ?_
          first | (exfalso; omega) | exact ⟨by show _ = some (0, (deC M x n k).1); unfold deC; rw [if_neg (by first | omega | assumption), if_pos (by first | omega | assumption), thR_0 (by assumption)], rfl, by show _ = (deC M x n k).2; unfold deC; rw [if_neg (by first | omega | assumption), if_pos (by first | omega | assumption), thR_0 (by assumption)]⟩ | exact ⟨by show _ = some (0, (deC M x n k).1); unfold deC; rw [if_neg (by first | omega | assumption), if_pos (by first | omega | assumption), thR_1 (by assumption), thR_0 (by assumption)], rfl, by show _ = (deC M x n k).2; unfold deC; rw [if_neg (by first | omega | assumption), if_pos (by first | omega | assumption), thR_1 (by assumption), thR_0 (by assumption)]⟩ | exact ⟨by show _ = some (0, (deC M x n k).1); unfold deC; rw [if_neg (by first | omega | assumption), if_pos (by first | omega | assumption), thR_1 (by assumption), thR_1 (by assumption), thR_0 (by assumption)], rfl, by show _ = (deC M x n k).2; unfold deC; rw [if_neg (by first | omega | assumption), if_pos (by first | omega | assumption), thR_1 (by assumption), thR_1 (by assumption), thR_0 (by assumption)]⟩ | exact ⟨by show _ = some (0, (deC M x n k).1); unfold deC; rw [if_neg (by first | omega | assumption), if_pos (by first | omega | assumption), thR_1 (by assumption), thR_1 (by assumption), thR_1 (by assumption), thR_0 (by assumption)], rfl, by show _ = (deC M x n k).2; unfold deC; rw [if_neg (by first | omega | assumption), if_pos (by first | omega | assumption), thR_1 (by assumption), thR_1 (by assumption), thR_1 (by assumption), thR_0 (by assumption)]⟩ | exact ⟨by show _ = some (0, (deC M x n k).1); unfold deC; rw [if_neg (by first | omega | assumption), if_pos (by first | omega | assumption), thR_1 (by assumption), thR_1 (by assumption), thR_1 (by assumption), thR_1 (by assumption), thR_0 (by assumption)], rfl, by show _ = (deC M x n k).2; unfold deC; rw [if_neg (by first | omega | assumption), if_pos (by first | omega | assumption), thR_1 (by assumption), thR_1 (by assumption), thR_1 (by assumption), thR_1 (by assumption), thR_0 (by assumption)]⟩ | exact ⟨by show _ = some (0, (deC M x n k).1); unfold deC; rw [if_neg (by first | omega | assumption), if_pos (by first | omega | assumption), thR_1 (by assumption), thR_1 (by assumption), thR_1 (by assumption), thR_1 (by assumption), thR_1 (by assumption)], rfl, by show _ = (deC M x n k).2; unfold deC; rw [if_neg (by first | omega | assumption), if_pos (by first | omega | assumption), thR_1 (by assumption), thR_1 (by assumption), thR_1 (by assumption), thR_1 (by assumption), thR_1 (by assumption)]⟩
        · refine r_aload_n dX4_readDeed_115 rfl (by decide) ?_
          refine r_bipush dX4_readDeed_116 (by decide) (by decide) ?_
          refine r_cv1 dX4_readDeed_118 clX4_70 sf2 (by decide) (by decide) rfl (by first | decide | omega) (Nat.le_of_ble_eq_true rfl) ((c_pass hq hx q3)) ⟨Nat.zero_le _, Nat.zero_le _⟩ (fun _ => ?_)
          refine r_if_eq (tgt := 139) dX4_readDeed_121 (by decide) (fun h121 => ?_) (fun h121 => ?_)
          · refine r_iconst dX4_readDeed_139 (by decide) ?_
            refine r_zret dX4_readDeed_140 rfl (by omega) ?_
            first | (exfalso; omega) | exact ⟨by show _ = some (0, (deC M x n k).1); unfold deC; rw [if_neg (by first | omega | assumption), if_pos (by first | omega | assumption), thR_0 (by assumption)], rfl, by show _ = (deC M x n k).2; unfold deC; rw [if_neg (by first | omega | assumption), if_pos (by first | omega | assumption), thR_0 (by assumption)]⟩ | exact ⟨by show _ = some (0, (deC M x n k).1); unfold deC; rw [if_neg (by first | omega | assumption), if_pos (by first | omega | assumption), thR_1 (by assumption), thR_0 (by assumption)], rfl, by show _ = (deC M x n k).2; unfold deC; rw [if_neg (by first | omega | assumption), if_pos (by first | omega | assumption), thR_1 (by assumption), thR_0 (by assumption)]⟩ | exact ⟨by show _ = some (0, (deC M x n k).1); unfold deC; rw [if_neg (by first | omega | assumption), if_pos (by first | omega | assumption), thR_1 (by assumption), thR_1 (by assumption), thR_0 (by assumption)], rfl, by show _ = (deC M x n k).2; unfold deC; rw [if_neg (by first | omega | assumption), if_pos (by first | omega | assumption), thR_1 (by assumption), thR_1 (by assumption), thR_0 (by assumption)]⟩ | exact ⟨by show _ = some (0, (deC M x n k).1); unfold deC; rw [if_neg (by first | omega | assumption), if_pos (by first | omega | assumption), thR_1 (by assumption), thR_1 (by assumption), thR_1 (by assumption), thR_0 (by assumption)], rfl, by show _ = (deC M x n k).2; unfold deC; rw [if_neg (by first | omega | assumption), if_pos (by first | omega | assumption), thR_1 (by assumption), thR_1 (by assumption), thR_1 (by assumption), thR_0 (by assumption)]⟩ | exact ⟨by show _ = some (0, (deC M x n k).1); unfold deC; rw [if_neg (by first | omega | assumption), if_pos (by first | omega | assumption), thR_1 (by assumption), thR_1 (by assumption), thR_1 (by assumption), thR_1 (by assumption), thR_0 (by assumption)], rfl, by show _ = (deC M x n k).2; unfold deC; rw [if_neg (by first | omega | assumption), if_pos (by first | omega | assumption), thR_1 (by assumption), thR_1 (by assumption), thR_1 (by assumption), thR_1 (by assumption), thR_0 (by assumption)]⟩ | exact ⟨by show _ = some (0, (deC M x n k).1); unfold deC; rw [if_neg (by first | omega | assumption), if_pos (by first | omega | assumption), thR_1 (by assumption), thR_1 (by assumption), thR_1 (by assumption), thR_1 (by assumption), thR_1 (by assumption)], rfl, by show _ = (deC M x n k).2; unfold deC; rw [if_neg (by first | omega | assumption), if_pos (by first | omega | assumption), thR_1 (by assumption), thR_1 (by assumption), thR_1 (by assumption), thR_1 (by assumption), thR_1 (by assumption)]⟩
          · refine r_aload_n dX4_readDeed_124 rfl (by decide) ?_
            refine r_iconst dX4_readDeed_125 (by decide) ?_
            refine r_iconst dX4_readDeed_126 (by decide) ?_
            refine r_bipush dX4_readDeed_127 (by decide) (by decide) ?_
            refine r_cv3 dX4_readDeed_129 clX4_80 sf2 (by decide) (by decide) rfl (by first | decide | omega) (Nat.le_of_ble_eq_true rfl) ((c_readNumber hq hx q4)) ⟨Nat.zero_le _, Nat.zero_le _⟩ (fun _ => ?_)
            refine r_if_eq (tgt := 139) dX4_readDeed_132 (by decide) (fun h132 => ?_) (fun h132 => ?_)
            · refine r_iconst dX4_readDeed_139 (by decide) ?_
              refine r_zret dX4_readDeed_140 rfl (by omega) ?_
              first | (exfalso; omega) | exact ⟨by show _ = some (0, (deC M x n k).1); unfold deC; rw [if_neg (by first | omega | assumption), if_pos (by first | omega | assumption), thR_0 (by assumption)], rfl, by show _ = (deC M x n k).2; unfold deC; rw [if_neg (by first | omega | assumption), if_pos (by first | omega | assumption), thR_0 (by assumption)]⟩ | exact ⟨by show _ = some (0, (deC M x n k).1); unfold deC; rw [if_neg (by first | omega | assumption), if_pos (by first | omega | assumption), thR_1 (by assumption), thR_0 (by assumption)], rfl, by show _ = (deC M x n k).2; unfold deC; rw [if_neg (by first | omega | assumption), if_pos (by first | omega | assumption), thR_1 (by assumption), thR_0 (by assumption)]⟩ | exact ⟨by show _ = some (0, (deC M x n k).1); unfold deC; rw [if_neg (by first | omega | assumption), if_pos (by first | omega | assumption), thR_1 (by assumption), thR_1 (by assumption), thR_0 (by assumption)], rfl, by show _ = (deC M x n k).2; unfold deC; rw [if_neg (by first | omega | assumption), if_pos (by first | omega | assumption), thR_1 (by assumption), thR_1 (by assumption), thR_0 (by assumption)]⟩ | exact ⟨by show _ = some (0, (deC M x n k).1); unfold deC; rw [if_neg (by first | omega | assumption), if_pos (by first | omega | assumption), thR_1 (by assumption), thR_1 (by assumption), thR_1 (by assumption), thR_0 (by assumption)], rfl, by show _ = (deC M x n k).2; unfold deC; rw [if_neg (by first | omega | assumption), if_pos (by first | omega | assumption), thR_1 (by assumption), thR_1 (by assumption), thR_1 (by assumption), thR_0 (by assumption)]⟩ | exact ⟨by show _ = some (0, (deC M x n k).1); unfold deC; rw [if_neg (by first | omega | assumption), if_pos (by first | omega | assumption), thR_1 (by assumption), thR_1 (by assumption), thR_1 (by assumption), thR_1 (by assumption), thR_0 (by assumption)], rfl, by show _ = (deC M x n k).2; unfold deC; rw [if_neg (by first | omega | assumption), if_pos (by first | omega | assumption), thR_1 (by assumption), thR_1 (by assumption), thR_1 (by assumption), thR_1 (by assumption), thR_0 (by assumption)]⟩ | exact ⟨by show _ = some (0, (deC M x n k).1); unfold deC; rw [if_neg (by first | omega | assumption), if_pos (by first | omega | assumption), thR_1 (by assumption), thR_1 (by assumption), thR_1 (by assumption), thR_1 (by assumption), thR_1 (by assumption)], rfl, by show _ = (deC M x n k).2; unfold deC; rw [if_neg (by first | omega | assumption), if_pos (by first | omega | assumption), thR_1 (by assumption), thR_1 (by assumption), thR_1 (by assumption), thR_1 (by assumption), thR_1 (by assumption)]⟩
            · refine r_iconst dX4_readDeed_135 (by decide) ?_
              refine r_goto (tgt := 140) dX4_readDeed_136 (by decide) ?_
              refine r_zret dX4_readDeed_140 rfl (by omega) ?_
              first | (exfalso; omega) | exact ⟨by show _ = some (0, (deC M x n k).1); unfold deC; rw [if_neg (by first | omega | assumption), if_pos (by first | omega | assumption), thR_0 (by assumption)], rfl, by show _ = (deC M x n k).2; unfold deC; rw [if_neg (by first | omega | assumption), if_pos (by first | omega | assumption), thR_0 (by assumption)]⟩ | exact ⟨by show _ = some (0, (deC M x n k).1); unfold deC; rw [if_neg (by first | omega | assumption), if_pos (by first | omega | assumption), thR_1 (by assumption), thR_0 (by assumption)], rfl, by show _ = (deC M x n k).2; unfold deC; rw [if_neg (by first | omega | assumption), if_pos (by first | omega | assumption), thR_1 (by assumption), thR_0 (by assumption)]⟩ | exact ⟨by show _ = some (0, (deC M x n k).1); unfold deC; rw [if_neg (by first | omega | assumption), if_pos (by first | omega | assumption), thR_1 (by assumption), thR_1 (by assumption), thR_0 (by assumption)], rfl, by show _ = (deC M x n k).2; unfold deC; rw [if_neg (by first | omega | assumption), if_pos (by first | omega | assumption), thR_1 (by assumption), thR_1 (by assumption), thR_0 (by assumption)]⟩ | exact ⟨by show _ = some (0, (deC M x n k).1); unfold deC; rw [if_neg (by first | omega | assumption), if_pos (by first | omega | assumption), thR_1 (by assumption), thR_1 (by assumption), thR_1 (by assumption), thR_0 (by assumption)], rfl, by show _ = (deC M x n k).2; unfold deC; rw [if_neg (by first | omega | assumption), if_pos (by first | omega | assumption), thR_1 (by assumption), thR_1 (by assumption), thR_1 (by assumption), thR_0 (by assumption)]⟩ | exact ⟨by show _ = some (0, (deC M x n k).1); unfold deC; rw [if_neg (by first | omega | assumption), if_pos (by first | omega | assumption), thR_1 (by assumption), thR_1 (by assumption), thR_1 (by assumption), thR_1 (by assumption), thR_0 (by assumption)], rfl, by show _ = (deC M x n k).2; unfold deC; rw [if_neg (by first | omega | assumption), if_pos (by first | omega | assumption), thR_1 (by assumption), thR_1 (by assumption), thR_1 (by assumption), thR_1 (by assumption), thR_0 (by assumption)]⟩ | exact ⟨by show _ = some (0, (deC M x n k).1); unfold deC; rw [if_neg (by first | omega | assumption), if_pos (by first | omega | assumption), thR_1 (by assumption), thR_1 (by assumption), thR_1 (by assumption), thR_1 (by assumption), thR_1 (by assumption)], rfl, by show _ = (deC M x n k).2; unfold deC; rw [if_neg (by first | omega | assumption), if_pos (by first | omega | assumption), thR_1 (by assumption), thR_1 (by assumption), thR_1 (by assumption), thR_1 (by assumption), thR_1 (by assumption)]⟩
  · refine r_tabEq (tgt := 141) dX4_readDeed_1 hsw (by decide) (by decide) rfl (by decide) ?_
    refine r_aload_n dX4_readDeed_141 rfl (by decide) ?_
    refine r_iconst dX4_readDeed_142 (by decide) ?_
    refine r_iconst dX4_readDeed_143 (by decide) ?_
    refine r_bipush dX4_readDeed_144 (by decide) (by decide) ?_
    refine r_cv3 dX4_readDeed_146 clX4_80 sf2 (by decide) (by decide) rfl (by first | decide | omega) (Nat.le_of_ble_eq_true rfl) ((c_readNumber hq hx hP)) ⟨Nat.zero_le _, Nat.zero_le _⟩ (fun _ => ?_)
    refine r_if_eq (tgt := 176) dX4_readDeed_149 (by decide) (fun h149 => ?_) (fun h149 => ?_)
    · refine r_iconst dX4_readDeed_176 (by decide) ?_
      refine r_zret dX4_readDeed_177 rfl (by omega) ?_
      first | (exfalso; omega) | exact ⟨by show _ = some (0, (deC M x n k).1); unfold deC; rw [if_neg (by first | omega | assumption), if_neg (by first | omega | assumption), if_pos (by first | omega | assumption), thR_0 (by assumption)], rfl, by show _ = (deC M x n k).2; unfold deC; rw [if_neg (by first | omega | assumption), if_neg (by first | omega | assumption), if_pos (by first | omega | assumption), thR_0 (by assumption)]⟩ | exact ⟨by show _ = some (0, (deC M x n k).1); unfold deC; rw [if_neg (by first | omega | assumption), if_neg (by first | omega | assumption), if_pos (by first | omega | assumption), thR_1 (by assumption), thR_0 (by assumption)], rfl, by show _ = (deC M x n k).2; unfold deC; rw [if_neg (by first | omega | assumption), if_neg (by first | omega | assumption), if_pos (by first | omega | assumption), thR_1 (by assumption), thR_0 (by assumption)]⟩ | exact ⟨by show _ = some (0, (deC M x n k).1); unfold deC; rw [if_neg (by first | omega | assumption), if_neg (by first | omega | assumption), if_pos (by first | omega | assumption), thR_1 (by assumption), thR_1 (by assumption), thR_0 (by assumption)], rfl, by show _ = (deC M x n k).2; unfold deC; rw [if_neg (by first | omega | assumption), if_neg (by first | omega | assumption), if_pos (by first | omega | assumption), thR_1 (by assumption), thR_1 (by assumption), thR_0 (by assumption)]⟩ | exact ⟨by show _ = some (0, (deC M x n k).1); unfold deC; rw [if_neg (by first | omega | assumption), if_neg (by first | omega | assumption), if_pos (by first | omega | assumption), thR_1 (by assumption), thR_1 (by assumption), thR_1 (by assumption)], rfl, by show _ = (deC M x n k).2; unfold deC; rw [if_neg (by first | omega | assumption), if_neg (by first | omega | assumption), if_pos (by first | omega | assumption), thR_1 (by assumption), thR_1 (by assumption), thR_1 (by assumption)]⟩
    · refine r_aload_n dX4_readDeed_152 rfl (by decide) ?_
      refine r_bipush dX4_readDeed_153 (by decide) (by decide) ?_
      refine r_cv1 dX4_readDeed_155 clX4_70 sf2 (by decide) (by decide) rfl (by first | decide | omega) (Nat.le_of_ble_eq_true rfl) ((c_pass hq hx r1)) ⟨Nat.zero_le _, Nat.zero_le _⟩ (fun _ => ?_)
      refine r_if_eq (tgt := 176) dX4_readDeed_158 (by decide) (fun h158 => ?_) (fun h158 => ?_)
      · refine r_iconst dX4_readDeed_176 (by decide) ?_
        refine r_zret dX4_readDeed_177 rfl (by omega) ?_
        first | (exfalso; omega) | exact ⟨by show _ = some (0, (deC M x n k).1); unfold deC; rw [if_neg (by first | omega | assumption), if_neg (by first | omega | assumption), if_pos (by first | omega | assumption), thR_0 (by assumption)], rfl, by show _ = (deC M x n k).2; unfold deC; rw [if_neg (by first | omega | assumption), if_neg (by first | omega | assumption), if_pos (by first | omega | assumption), thR_0 (by assumption)]⟩ | exact ⟨by show _ = some (0, (deC M x n k).1); unfold deC; rw [if_neg (by first | omega | assumption), if_neg (by first | omega | assumption), if_pos (by first | omega | assumption), thR_1 (by assumption), thR_0 (by assumption)], rfl, by show _ = (deC M x n k).2; unfold deC; rw [if_neg (by first | omega | assumption), if_neg (by first | omega | assumption), if_pos (by first | omega | assumption), thR_1 (by assumption), thR_0 (by assumption)]⟩ | exact ⟨by show _ = some (0, (deC M x n k).1); unfold deC; rw [if_neg (by first | omega | assumption), if_neg (by first | omega | assumption), if_pos (by first | omega | assumption), thR_1 (by assumption), thR_1 (by assumption), thR_0 (by assumption)], rfl, by show _ = (deC M x n k).2; unfold deC; rw [if_neg (by first | omega | assumption), if_neg (by first | omega | assumption), if_pos (by first | omega | assumption), thR_1 (by assumption), thR_1 (by assumption), thR_0 (by assumption)]⟩ | exact ⟨by show _ = some (0, (deC M x n k).1); unfold deC; rw [if_neg (by first | omega | assumption), if_neg (by first | omega | assumption), if_pos (by first | omega | assumption), thR_1 (by assumption), thR_1 (by assumption), thR_1 (by assumption)], rfl, by show _ = (deC M x n k).2; unfold deC; rw [if_neg (by first | omega | assumption), if_neg (by first | omega | assumption), if_pos (by first | omega | assumption), thR_1 (by assumption), thR_1 (by assumption), thR_1 (by assumption)]⟩
      · refine r_aload_n dX4_readDeed_161 rfl (by decide) ?_
        refine r_iconst dX4_readDeed_162 (by decide) ?_
        refine r_iconst dX4_readDeed_163 (by decide) ?_
        refine r_bipush dX4_readDeed_164 (by decide) (by decide) ?_
        refine r_cv3 dX4_readDeed_166 clX4_80 sf2 (by decide) (by decide) rfl (by first | decide | omega) (Nat.le_of_ble_eq_true rfl) ((c_readNumber hq hx r2)) ⟨Nat.zero_le _, Nat.zero_le _⟩ (fun _ => ?_)
        refine r_if_eq (tgt := 176) dX4_readDeed_169 (by decide) (fun h169 => ?_) (fun h169 => ?_)
        · refine r_iconst dX4_readDeed_176 (by decide) ?_
          refine r_zret dX4_readDeed_177 rfl (by omega) ?_
          first | (exfalso; omega) | exact ⟨by show _ = some (0, (deC M x n k).1); unfold deC; rw [if_neg (by first | omega | assumption), if_neg (by first | omega | assumption), if_pos (by first | omega | assumption), thR_0 (by assumption)], rfl, by show _ = (deC M x n k).2; unfold deC; rw [if_neg (by first | omega | assumption), if_neg (by first | omega | assumption), if_pos (by first | omega | assumption), thR_0 (by assumption)]⟩ | exact ⟨by show _ = some (0, (deC M x n k).1); unfold deC; rw [if_neg (by first | omega | assumption), if_neg (by first | omega | assumption), if_pos (by first | omega | assumption), thR_1 (by assumption), thR_0 (by assumption)], rfl, by show _ = (deC M x n k).2; unfold deC; rw [if_neg (by first | omega | assumption), if_neg (by first | omega | assumption), if_pos (by first | omega | assumption), thR_1 (by assumption), thR_0 (by assumption)]⟩ | exact ⟨by show _ = some (0, (deC M x n k).1); unfold deC; rw [if_neg (by first | omega | assumption), if_neg (by first | omega | assumption), if_pos (by first | omega | assumption), thR_1 (by assumption), thR_1 (by assumption), thR_0 (by assumption)], rfl, by show _ = (deC M x n k).2; unfold deC; rw [if_neg (by first | omega | assumption), if_neg (by first | omega | assumption), if_pos (by first | omega | assumption), thR_1 (by assumption), thR_1 (by assumption), thR_0 (by assumption)]⟩ | exact ⟨by show _ = some (0, (deC M x n k).1); unfold deC; rw [if_neg (by first | omega | assumption), if_neg (by first | omega | assumption), if_pos (by first | omega | assumption), thR_1 (by assumption), thR_1 (by assumption), thR_1 (by assumption)], rfl, by show _ = (deC M x n k).2; unfold deC; rw [if_neg (by first | omega | assumption), if_neg (by first | omega | assumption), if_pos (by first | omega | assumption), thR_1 (by assumption), thR_1 (by assumption), thR_1 (by assumption)]⟩
        · refine r_iconst dX4_readDeed_172 (by decide) ?_
          refine r_goto (tgt := 177) dX4_readDeed_173 (by decide) ?_
          refine r_zret dX4_readDeed_177 rfl (by omega) ?_
          first | (exfalso; omega) | exact ⟨by show _ = some (0, (deC M x n k).1); unfold deC; rw [if_neg (by first | omega | assumption), if_neg (by first | omega | assumption), if_pos (by first | omega | assumption), thR_0 (by assumption)], rfl, by show _ = (deC M x n k).2; unfold deC; rw [if_neg (by first | omega | assumption), if_neg (by first | omega | assumption), if_pos (by first | omega | assumption), thR_0 (by assumption)]⟩ | exact ⟨by show _ = some (0, (deC M x n k).1); unfold deC; rw [if_neg (by first | omega | assumption), if_neg (by first | omega | assumption), if_pos (by first | omega | assumption), thR_1 (by assumption), thR_0 (by assumption)], rfl, by show _ = (deC M x n k).2; unfold deC; rw [if_neg (by first | omega | assumption), if_neg (by first | omega | assumption), if_pos (by first | omega | assumption), thR_1 (by assumption), thR_0 (by assumption)]⟩ | exact ⟨by show _ = some (0, (deC M x n k).1); unfold deC; rw [if_neg (by first | omega | assumption), if_neg (by first | omega | assumption), if_pos (by first | omega | assumption), thR_1 (by assumption), thR_1 (by assumption), thR_0 (by assumption)], rfl, by show _ = (deC M x n k).2; unfold deC; rw [if_neg (by first | omega | assumption), if_neg (by first | omega | assumption), if_pos (by first | omega | assumption), thR_1 (by assumption), thR_1 (by assumption), thR_0 (by assumption)]⟩ | exact ⟨by show _ = some (0, (deC M x n k).1); unfold deC; rw [if_neg (by first | omega | assumption), if_neg (by first | omega | assumption), if_pos (by first | omega | assumption), thR_1 (by assumption), thR_1 (by assumption), thR_1 (by assumption)], rfl, by show _ = (deC M x n k).2; unfold deC; rw [if_neg (by first | omega | assumption), if_neg (by first | omega | assumption), if_pos (by first | omega | assumption), thR_1 (by assumption), thR_1 (by assumption), thR_1 (by assumption)]⟩
  · refine r_tabEq (tgt := 205) dX4_readDeed_1 hsw (by decide) (by decide) rfl (by decide) ?_
    refine r_aload_n dX4_readDeed_205 rfl (by decide) ?_
    refine r_iconst dX4_readDeed_206 (by decide) ?_
    refine r_iconst dX4_readDeed_207 (by decide) ?_
    refine r_bipush dX4_readDeed_208 (by decide) (by decide) ?_
    refine r_cv3 dX4_readDeed_210 clX4_80 sf2 (by decide) (by decide) rfl (by first | decide | omega) (Nat.le_of_ble_eq_true rfl) ((c_readNumber hq hx hP)) ⟨Nat.zero_le _, Nat.zero_le _⟩ (fun _ => ?_)
    refine r_zret dX4_readDeed_213 rfl (by omega) ?_
    first | (exfalso; omega) | exact ⟨by show _ = some (0, (deC M x n k).1); unfold deC; rw [if_neg (by first | omega | assumption), if_neg (by first | omega | assumption), if_neg (by first | omega | assumption), if_neg (by first | omega | assumption), if_neg (by first | omega | assumption), if_neg (by first | omega | assumption)], rfl, by show _ = (deC M x n k).2; unfold deC; rw [if_neg (by first | omega | assumption), if_neg (by first | omega | assumption), if_neg (by first | omega | assumption), if_neg (by first | omega | assumption), if_neg (by first | omega | assumption), if_neg (by first | omega | assumption)]⟩
  · refine r_tabEq (tgt := 205) dX4_readDeed_1 hsw (by decide) (by decide) rfl (by decide) ?_
    refine r_aload_n dX4_readDeed_205 rfl (by decide) ?_
    refine r_iconst dX4_readDeed_206 (by decide) ?_
    refine r_iconst dX4_readDeed_207 (by decide) ?_
    refine r_bipush dX4_readDeed_208 (by decide) (by decide) ?_
    refine r_cv3 dX4_readDeed_210 clX4_80 sf2 (by decide) (by decide) rfl (by first | decide | omega) (Nat.le_of_ble_eq_true rfl) ((c_readNumber hq hx hP)) ⟨Nat.zero_le _, Nat.zero_le _⟩ (fun _ => ?_)
    refine r_zret dX4_readDeed_213 rfl (by omega) ?_
    first | (exfalso; omega) | exact ⟨by show _ = some (0, (deC M x n k).1); unfold deC; rw [if_neg (by first | omega | assumption), if_neg (by first | omega | assumption), if_neg (by first | omega | assumption), if_neg (by first | omega | assumption), if_neg (by first | omega | assumption), if_neg (by first | omega | assumption)], rfl, by show _ = (deC M x n k).2; unfold deC; rw [if_neg (by first | omega | assumption), if_neg (by first | omega | assumption), if_neg (by first | omega | assumption), if_neg (by first | omega | assumption), if_neg (by first | omega | assumption), if_neg (by first | omega | assumption)]⟩
  · refine r_tabEq (tgt := 187) dX4_readDeed_1 hsw (by decide) (by decide) rfl (by decide) ?_
    refine r_aload_n dX4_readDeed_187 rfl (by decide) ?_
    refine r_iconst dX4_readDeed_188 (by decide) ?_
    refine r_iconst dX4_readDeed_189 (by decide) ?_
    refine r_bipush dX4_readDeed_190 (by decide) (by decide) ?_
    refine r_cv3 dX4_readDeed_192 clX4_80 sf2 (by decide) (by decide) rfl (by first | decide | omega) (Nat.le_of_ble_eq_true rfl) ((c_readNumber hq hx hP)) ⟨Nat.zero_le _, Nat.zero_le _⟩ (fun _ => ?_)
    refine r_zret dX4_readDeed_195 rfl (by omega) ?_
    first | (exfalso; omega) | exact ⟨by show _ = some (0, (deC M x n k).1); unfold deC; rw [if_neg (by first | omega | assumption), if_neg (by first | omega | assumption), if_neg (by first | omega | assumption), if_pos (by first | omega | assumption)], rfl, by show _ = (deC M x n k).2; unfold deC; rw [if_neg (by first | omega | assumption), if_neg (by first | omega | assumption), if_neg (by first | omega | assumption), if_pos (by first | omega | assumption)]⟩
  · refine r_tabEq (tgt := 178) dX4_readDeed_1 hsw (by decide) (by decide) rfl (by decide) ?_
    refine r_aload_n dX4_readDeed_178 rfl (by decide) ?_
    refine r_iconst dX4_readDeed_179 (by decide) ?_
    refine r_iconst dX4_readDeed_180 (by decide) ?_
    refine r_bipush dX4_readDeed_181 (by decide) (by decide) ?_
    refine r_cv3 dX4_readDeed_183 clX4_80 sf2 (by decide) (by decide) rfl (by first | decide | omega) (Nat.le_of_ble_eq_true rfl) ((c_readNumber hq hx hP)) ⟨Nat.zero_le _, Nat.zero_le _⟩ (fun _ => ?_)
    refine r_zret dX4_readDeed_186 rfl (by omega) ?_
    first | (exfalso; omega) | exact ⟨by show _ = some (0, (deC M x n k).1); unfold deC; rw [if_neg (by first | omega | assumption), if_neg (by first | omega | assumption), if_neg (by first | omega | assumption), if_neg (by first | omega | assumption), if_pos (by first | omega | assumption)], rfl, by show _ = (deC M x n k).2; unfold deC; rw [if_neg (by first | omega | assumption), if_neg (by first | omega | assumption), if_neg (by first | omega | assumption), if_neg (by first | omega | assumption), if_pos (by first | omega | assumption)]⟩
  · refine r_tabEq (tgt := 196) dX4_readDeed_1 hsw (by decide) (by decide) rfl (by decide) ?_
    refine r_aload_n dX4_readDeed_196 rfl (by decide) ?_
    refine r_iconst dX4_readDeed_197 (by decide) ?_
    refine r_iconst dX4_readDeed_198 (by decide) ?_
    refine r_bipush dX4_readDeed_199 (by decide) (by decide) ?_
    refine r_cv3 dX4_readDeed_201 clX4_80 sf2 (by decide) (by decide) rfl (by first | decide | omega) (Nat.le_of_ble_eq_true rfl) ((c_readNumber hq hx hP)) ⟨Nat.zero_le _, Nat.zero_le _⟩ (fun _ => ?_)
    refine r_zret dX4_readDeed_204 rfl (by omega) ?_
    first | (exfalso; omega) | exact ⟨by show _ = some (0, (deC M x n k).1); unfold deC; rw [if_neg (by first | omega | assumption), if_neg (by first | omega | assumption), if_neg (by first | omega | assumption), if_neg (by first | omega | assumption), if_neg (by first | omega | assumption), if_pos (by first | omega | assumption)], rfl, by show _ = (deC M x n k).2; unfold deC; rw [if_neg (by first | omega | assumption), if_neg (by first | omega | assumption), if_neg (by first | omega | assumption), if_neg (by first | omega | assumption), if_neg (by first | omega | assumption), if_pos (by first | omega | assumption)]⟩
def clC (M : Me) (x : Int) (n : Nat) : RV :=
  if M 2 7 < 16 ∨ 26 < M 2 7 then (0, rfC M 1)
  else if M 2 7 ≤ 18 ∧ M (x + 1) (M 2 7 - 16) ≠ -1 then (0, rfC (up M 2 9 (M 2 7 - 16)) 4)
  else if 24 ≤ M x 0 then (0, rfC (up M 2 9 (M 2 7 - 16)) 6)
  else if 18 < M 2 7 then thR (deC (goC (beC (up M 2 9 (M 2 7 - 16)) x (M 2 7)) n) x n (M 2 7)) fun A => thR (paC A n 5) fun A => (1, A)
  else thR (rdC n x 83 0 0 0 (up (goC (beC (up M 2 9 (M 2 7 - 16)) x (M 2 7)) n) (x + 1) (M 2 7 - 16) (M x 1))) fun A => thR (pkC A x n 5) fun A => (1, A)
theorem PR.u9 {M : Me} {x : Int} {n : Nat} (h : PR M x n) (hx : 15 ≤ x ∧ x ≤ 39) {v : Int} : PR (up M 2 9 v) x n := by
  unfold PR
  rw [up_ne (by omega), up_ne (by omega), up_ne (by omega), up_ne (by omega)]
  exact h
theorem PR.ul {M : Me} {x : Int} {n : Nat} (h : PR M x n) (hx : 15 ≤ x ∧ x ≤ 39) {j v : Int} : PR (up M (x + 1) j v) x n := by
  unfold PR
  rw [up_ne (by omega), up_ne (by omega), up_ne (by omega), up_ne (by omega)]
  exact h
theorem GP.cl {M : Me} {x : Int} {n : Nat} (h : PR M x n) (hx : 15 ≤ x ∧ x ≤ 39) : GP n x (clC M x n) := by
  unfold clC
  (repeat' split)
  · exact GP.z (h.rf hx)
  · exact GP.z ((h.u9 hx).rf hx)
  · exact GP.z ((h.u9 hx).rf hx)
  · exact GP.th (GP.de (((h.u9 hx).be hx).go hx) hx) fun A a => GP.th (GP.pa a hx) fun B b => GP.o b
  · exact GP.th (GP.rd hx _ _ _ _ _ ((((h.u9 hx).be hx).go hx).ul hx)) fun A a => GP.th (GP.pk a hx) fun B b => GP.o b
theorem beC_o {M : Me} {x k a j : Int} (h : a ≠ x + 3 ∧ ¬ (a = x ∧ j = 0)) : beC M x k a j = M a j := by
  unfold beC
  split
  · exact (up_ne (by omega)).trans (up_ne (by omega))
  · rfl
theorem c_readClause {x y z : Int} {M : Me} (hq : TS (Sf x y z) x) (hx : 15 ≤ x ∧ x ≤ 39) {n : Nat} (hP : PR M x n) : Con kX4_readClause 92 0 0 [(1, 2)] (Sf x y z) M (Ex (some (0, (clC M x n).1)) (Sf x y z) (clC M x n).2) := by
  refine Con.ofV (al := [(1, 2), (9, 0), (9, 0)]) 2 (by decide) (Nat.le_of_ble_eq_true rfl) rfl ?_
  obtain ⟨x0, x1, x2, x3, -, -, -, -, -⟩ := id hq
  have u9 := hP.u9 hx (v := M 2 7 - 16)
  have ub := u9.be hx (k := M 2 7)
  have ug := ub.go hx
  have e9 : (goC (beC (up M 2 9 (M 2 7 - 16)) x (M 2 7)) n) 2 9 = M 2 7 - 16 := (goC_o (by omega)).trans ((beC_o (by omega)).trans (up_eq ⟨rfl, rfl⟩))
  have e1 : (goC (beC (up M 2 9 (M 2 7 - 16)) x (M 2 7)) n) x 1 = M x 1 := (goC_o (by omega)).trans ((beC_o (by omega)).trans (up_ne (by omega)))
  have ul := ug.ul hx (j := M 2 7 - 16) (v := M x 1)
  have b1 := (GP.de ug hx (k := M 2 7)).1
  have b3 := (GP.rd hx 83 0 0 0 _ ul).1
  refine r_aload_n dX4_readClause_0 rfl (by decide) ?_
  refine r_gi 7 dX4_readClause_1 flX4_40 sf2 (by decide) (by decide) rfl rfl rfl ?_
  refine r_istore_n dX4_readClause_4 rfl (by decide) st1 ?_
  refine r_iload_n dX4_readClause_5 rfl ?_
  refine r_bipush dX4_readClause_6 (by decide) (by decide) ?_
  refine r_icmp_lt (tgt := 17) dX4_readClause_8 (by decide) (fun h8 => ?_) (fun h8 => ?_)
  · refine r_aload_n dX4_readClause_17 rfl (by decide) ?_
    refine r_iconst dX4_readClause_18 (by decide) ?_
    refine r_cv1 dX4_readClause_19 clX4_50 sf2 (by decide) (by decide) rfl (by first | decide | omega) (Nat.le_of_ble_eq_true rfl) (c_refuse) ⟨Nat.zero_le _, Nat.zero_le _⟩ (fun _ => ?_)
    refine r_zret dX4_readClause_22 rfl (by omega) ?_
    first | (exfalso; omega) | exact ⟨by show _ = some (0, (clC M x n).1); unfold clC; rw [if_pos (by first | omega | assumption)], rfl, by show _ = (clC M x n).2; unfold clC; rw [if_pos (by first | omega | assumption)]⟩
  · refine r_iload_n dX4_readClause_11 rfl ?_
    refine r_bipush dX4_readClause_12 (by decide) (by decide) ?_
    refine r_icmp_le (tgt := 23) dX4_readClause_14 (by decide) (fun h14 => ?_) (fun h14 => ?_)
    · refine r_iload_n dX4_readClause_23 rfl ?_
      refine r_bipush dX4_readClause_24 (by decide) (by decide) ?_
      refine r_icmp_gt (tgt := 33) dX4_readClause_26 (by decide) (fun h26 => ?_) (fun h26 => ?_)
      · refine r_iconst dX4_readClause_33 (by decide) ?_
        refine r_istore_n dX4_readClause_34 rfl (by decide) st2 ?_
        refine r_aload_n dX4_readClause_35 rfl (by decide) ?_
        refine r_iload_n dX4_readClause_36 rfl ?_
        refine r_bipush dX4_readClause_37 (by decide) (by decide) ?_
        refine r_isub dX4_readClause_39 (w32_id (by omega)) ?_
        refine r_pi 9 dX4_readClause_40 fpX4_54 sf2 (by decide) (by decide) rfl rfl ?_
        refine r_iload_n dX4_readClause_43 rfl ?_
        refine r_if_eq (tgt := 69) dX4_readClause_44 (by decide) (fun h44 => ?_) (fun h44 => ?_)
        · try have h44 := bi_0.mp h44
          refine r_aload_n dX4_readClause_69 rfl (by decide) ?_
          refine r_getr (x := x) dX4_readClause_70 flX4_25 sf2 (by decide) (by decide) rfl rfl ?_
          refine r_gi 0 dX4_readClause_73 flX4_60 x0 (by decide) (by omega) rfl rfl (up_ne (by omega)) ?_
          refine r_bipush dX4_readClause_76 (by decide) (by decide) ?_
          refine r_icmp_lt (tgt := 88) dX4_readClause_78 (by decide) (fun h78 => ?_) (fun h78 => ?_)
          · refine r_aload_n dX4_readClause_88 rfl (by decide) ?_
            refine r_getr (x := x) dX4_readClause_89 flX4_25 sf2 (by decide) (by decide) rfl rfl ?_
            refine r_iload_n dX4_readClause_92 rfl ?_
            refine r_cw1 dX4_readClause_93 clX4_63 x0 (by omega) (by decide) rfl (by first | decide | omega) (Nat.le_of_ble_eq_true rfl) ((c_begin hq hx u9.2.2.2.2)) ⟨Nat.zero_le _, Nat.zero_le _⟩ ?_
            refine r_aload_n dX4_readClause_96 rfl (by decide) ?_
            refine r_cw0 dX4_readClause_97 clX4_37 sf2 (by decide) (by decide) rfl (by first | decide | omega) (Nat.le_of_ble_eq_true rfl) ((c_go ub.1 ub.2.1 ub.2.2.1)) ⟨Nat.zero_le _, Nat.zero_le _⟩ ?_
            refine r_iload_n dX4_readClause_100 rfl ?_
            refine r_if_ne (tgt := 126) dX4_readClause_101 (by decide) (fun h101 => ?_) (fun h101 => ?_)
            · try have h101 := bi_1.mp h101
              refine r_aload_n dX4_readClause_126 rfl (by decide) ?_
              refine r_getr (x := x) dX4_readClause_127 flX4_25 sf2 (by decide) (by decide) rfl rfl ?_
              refine r_getr (x := x + 1) dX4_readClause_130 flX4_57 x0 (by decide) (by omega) rfl rfl ?_
              refine r_aload_n dX4_readClause_133 rfl (by decide) ?_
              refine r_gi 9 dX4_readClause_134 flX4_54 sf2 (by decide) (by decide) rfl rfl e9 ?_
              refine r_aload_n dX4_readClause_137 rfl (by decide) ?_
              refine r_getr (x := x) dX4_readClause_138 flX4_25 sf2 (by decide) (by decide) rfl rfl ?_
              refine r_gi 1 dX4_readClause_141 flX4_73 x0 (by decide) (by omega) rfl rfl e1 ?_
              refine r_iast dX4_readClause_144 x1 (by omega) (by omega) (by omega) (by decide) rfl ?_
              refine r_aload_n dX4_readClause_145 rfl (by decide) ?_
              refine r_iconst dX4_readClause_146 (by decide) ?_
              refine r_cv1 dX4_readClause_147 clX4_74 sf2 (by decide) (by decide) rfl (by first | decide | omega) (Nat.le_of_ble_eq_true rfl) (((c_rd hq hx 83 0 (by decide)).1 (by decide) _ ul)) ⟨Nat.zero_le _, Nat.zero_le _⟩ (fun _ => ?_)
              refine r_if_eq (tgt := 165) dX4_readClause_150 (by decide) (fun h150 => ?_) (fun h150 => ?_)
              · refine r_iconst dX4_readClause_165 (by decide) ?_
                refine r_zret dX4_readClause_166 rfl (by omega) ?_
                first | (exfalso; omega) | exact ⟨by show _ = some (0, (clC M x n).1); unfold clC; rw [if_neg (by first | omega | assumption), if_neg (by first | omega | assumption), if_neg (by first | omega | assumption), if_neg (by first | omega | assumption), thR_0 (by assumption)], rfl, by show _ = (clC M x n).2; unfold clC; rw [if_neg (by first | omega | assumption), if_neg (by first | omega | assumption), if_neg (by first | omega | assumption), if_neg (by first | omega | assumption), thR_0 (by assumption)]⟩ | exact ⟨by show _ = some (0, (clC M x n).1); unfold clC; rw [if_neg (by first | omega | assumption), if_neg (by first | omega | assumption), if_neg (by first | omega | assumption), if_neg (by first | omega | assumption), thR_1 (by assumption), thR_0 (by assumption)], rfl, by show _ = (clC M x n).2; unfold clC; rw [if_neg (by first | omega | assumption), if_neg (by first | omega | assumption), if_neg (by first | omega | assumption), if_neg (by first | omega | assumption), thR_1 (by assumption), thR_0 (by assumption)]⟩ | exact ⟨by show _ = some (0, (clC M x n).1); unfold clC; rw [if_neg (by first | omega | assumption), if_neg (by first | omega | assumption), if_neg (by first | omega | assumption), if_neg (by first | omega | assumption), thR_1 (by assumption), thR_1 (by assumption)], rfl, by show _ = (clC M x n).2; unfold clC; rw [if_neg (by first | omega | assumption), if_neg (by first | omega | assumption), if_neg (by first | omega | assumption), if_neg (by first | omega | assumption), thR_1 (by assumption), thR_1 (by assumption)]⟩
              · refine r_aload_n dX4_readClause_153 rfl (by decide) ?_
                refine r_iconst dX4_readClause_154 (by decide) ?_
                refine r_cv1 dX4_readClause_155 clX4_77 sf2 (by decide) (by decide) rfl (by first | decide | omega) (Nat.le_of_ble_eq_true rfl) ((c_passKept hq hx b3)) ⟨Nat.zero_le _, Nat.zero_le _⟩ (fun _ => ?_)
                refine r_if_eq (tgt := 165) dX4_readClause_158 (by decide) (fun h158 => ?_) (fun h158 => ?_)
                · refine r_iconst dX4_readClause_165 (by decide) ?_
                  refine r_zret dX4_readClause_166 rfl (by omega) ?_
                  first | (exfalso; omega) | exact ⟨by show _ = some (0, (clC M x n).1); unfold clC; rw [if_neg (by first | omega | assumption), if_neg (by first | omega | assumption), if_neg (by first | omega | assumption), if_neg (by first | omega | assumption), thR_0 (by assumption)], rfl, by show _ = (clC M x n).2; unfold clC; rw [if_neg (by first | omega | assumption), if_neg (by first | omega | assumption), if_neg (by first | omega | assumption), if_neg (by first | omega | assumption), thR_0 (by assumption)]⟩ | exact ⟨by show _ = some (0, (clC M x n).1); unfold clC; rw [if_neg (by first | omega | assumption), if_neg (by first | omega | assumption), if_neg (by first | omega | assumption), if_neg (by first | omega | assumption), thR_1 (by assumption), thR_0 (by assumption)], rfl, by show _ = (clC M x n).2; unfold clC; rw [if_neg (by first | omega | assumption), if_neg (by first | omega | assumption), if_neg (by first | omega | assumption), if_neg (by first | omega | assumption), thR_1 (by assumption), thR_0 (by assumption)]⟩ | exact ⟨by show _ = some (0, (clC M x n).1); unfold clC; rw [if_neg (by first | omega | assumption), if_neg (by first | omega | assumption), if_neg (by first | omega | assumption), if_neg (by first | omega | assumption), thR_1 (by assumption), thR_1 (by assumption)], rfl, by show _ = (clC M x n).2; unfold clC; rw [if_neg (by first | omega | assumption), if_neg (by first | omega | assumption), if_neg (by first | omega | assumption), if_neg (by first | omega | assumption), thR_1 (by assumption), thR_1 (by assumption)]⟩
                · refine r_iconst dX4_readClause_161 (by decide) ?_
                  refine r_goto (tgt := 166) dX4_readClause_162 (by decide) ?_
                  refine r_zret dX4_readClause_166 rfl (by omega) ?_
                  first | (exfalso; omega) | exact ⟨by show _ = some (0, (clC M x n).1); unfold clC; rw [if_neg (by first | omega | assumption), if_neg (by first | omega | assumption), if_neg (by first | omega | assumption), if_neg (by first | omega | assumption), thR_0 (by assumption)], rfl, by show _ = (clC M x n).2; unfold clC; rw [if_neg (by first | omega | assumption), if_neg (by first | omega | assumption), if_neg (by first | omega | assumption), if_neg (by first | omega | assumption), thR_0 (by assumption)]⟩ | exact ⟨by show _ = some (0, (clC M x n).1); unfold clC; rw [if_neg (by first | omega | assumption), if_neg (by first | omega | assumption), if_neg (by first | omega | assumption), if_neg (by first | omega | assumption), thR_1 (by assumption), thR_0 (by assumption)], rfl, by show _ = (clC M x n).2; unfold clC; rw [if_neg (by first | omega | assumption), if_neg (by first | omega | assumption), if_neg (by first | omega | assumption), if_neg (by first | omega | assumption), thR_1 (by assumption), thR_0 (by assumption)]⟩ | exact ⟨by show _ = some (0, (clC M x n).1); unfold clC; rw [if_neg (by first | omega | assumption), if_neg (by first | omega | assumption), if_neg (by first | omega | assumption), if_neg (by first | omega | assumption), thR_1 (by assumption), thR_1 (by assumption)], rfl, by show _ = (clC M x n).2; unfold clC; rw [if_neg (by first | omega | assumption), if_neg (by first | omega | assumption), if_neg (by first | omega | assumption), if_neg (by first | omega | assumption), thR_1 (by assumption), thR_1 (by assumption)]⟩
            · try have h101 := bi_0.mp h101
              refine r_aload_n dX4_readClause_104 rfl (by decide) ?_
              refine r_iload_n dX4_readClause_105 rfl ?_
              refine r_cv1 dX4_readClause_106 clX4_67 sf2 (by decide) (by decide) rfl (by first | decide | omega) (Nat.le_of_ble_eq_true rfl) ((c_readDeed hq hx ug)) ⟨Nat.zero_le _, Nat.zero_le _⟩ (fun _ => ?_)
              refine r_if_eq (tgt := 124) dX4_readClause_109 (by decide) (fun h109 => ?_) (fun h109 => ?_)
              · refine r_iconst dX4_readClause_124 (by decide) ?_
                refine r_zret dX4_readClause_125 rfl (by omega) ?_
                first | (exfalso; omega) | exact ⟨by show _ = some (0, (clC M x n).1); unfold clC; rw [if_neg (by first | omega | assumption), if_neg (by first | omega | assumption), if_neg (by first | omega | assumption), if_pos (by first | omega | assumption), thR_0 (by assumption)], rfl, by show _ = (clC M x n).2; unfold clC; rw [if_neg (by first | omega | assumption), if_neg (by first | omega | assumption), if_neg (by first | omega | assumption), if_pos (by first | omega | assumption), thR_0 (by assumption)]⟩ | exact ⟨by show _ = some (0, (clC M x n).1); unfold clC; rw [if_neg (by first | omega | assumption), if_neg (by first | omega | assumption), if_neg (by first | omega | assumption), if_pos (by first | omega | assumption), thR_1 (by assumption), thR_0 (by assumption)], rfl, by show _ = (clC M x n).2; unfold clC; rw [if_neg (by first | omega | assumption), if_neg (by first | omega | assumption), if_neg (by first | omega | assumption), if_pos (by first | omega | assumption), thR_1 (by assumption), thR_0 (by assumption)]⟩ | exact ⟨by show _ = some (0, (clC M x n).1); unfold clC; rw [if_neg (by first | omega | assumption), if_neg (by first | omega | assumption), if_neg (by first | omega | assumption), if_pos (by first | omega | assumption), thR_1 (by assumption), thR_1 (by assumption)], rfl, by show _ = (clC M x n).2; unfold clC; rw [if_neg (by first | omega | assumption), if_neg (by first | omega | assumption), if_neg (by first | omega | assumption), if_pos (by first | omega | assumption), thR_1 (by assumption), thR_1 (by assumption)]⟩
              · refine r_aload_n dX4_readClause_112 rfl (by decide) ?_
                refine r_iconst dX4_readClause_113 (by decide) ?_
                refine r_cv1 dX4_readClause_114 clX4_70 sf2 (by decide) (by decide) rfl (by first | decide | omega) (Nat.le_of_ble_eq_true rfl) ((c_pass hq hx b1)) ⟨Nat.zero_le _, Nat.zero_le _⟩ (fun _ => ?_)
                refine r_if_eq (tgt := 124) dX4_readClause_117 (by decide) (fun h117 => ?_) (fun h117 => ?_)
                · refine r_iconst dX4_readClause_124 (by decide) ?_
                  refine r_zret dX4_readClause_125 rfl (by omega) ?_
                  first | (exfalso; omega) | exact ⟨by show _ = some (0, (clC M x n).1); unfold clC; rw [if_neg (by first | omega | assumption), if_neg (by first | omega | assumption), if_neg (by first | omega | assumption), if_pos (by first | omega | assumption), thR_0 (by assumption)], rfl, by show _ = (clC M x n).2; unfold clC; rw [if_neg (by first | omega | assumption), if_neg (by first | omega | assumption), if_neg (by first | omega | assumption), if_pos (by first | omega | assumption), thR_0 (by assumption)]⟩ | exact ⟨by show _ = some (0, (clC M x n).1); unfold clC; rw [if_neg (by first | omega | assumption), if_neg (by first | omega | assumption), if_neg (by first | omega | assumption), if_pos (by first | omega | assumption), thR_1 (by assumption), thR_0 (by assumption)], rfl, by show _ = (clC M x n).2; unfold clC; rw [if_neg (by first | omega | assumption), if_neg (by first | omega | assumption), if_neg (by first | omega | assumption), if_pos (by first | omega | assumption), thR_1 (by assumption), thR_0 (by assumption)]⟩ | exact ⟨by show _ = some (0, (clC M x n).1); unfold clC; rw [if_neg (by first | omega | assumption), if_neg (by first | omega | assumption), if_neg (by first | omega | assumption), if_pos (by first | omega | assumption), thR_1 (by assumption), thR_1 (by assumption)], rfl, by show _ = (clC M x n).2; unfold clC; rw [if_neg (by first | omega | assumption), if_neg (by first | omega | assumption), if_neg (by first | omega | assumption), if_pos (by first | omega | assumption), thR_1 (by assumption), thR_1 (by assumption)]⟩
                · refine r_iconst dX4_readClause_120 (by decide) ?_
                  refine r_goto (tgt := 125) dX4_readClause_121 (by decide) ?_
                  refine r_zret dX4_readClause_125 rfl (by omega) ?_
                  first | (exfalso; omega) | exact ⟨by show _ = some (0, (clC M x n).1); unfold clC; rw [if_neg (by first | omega | assumption), if_neg (by first | omega | assumption), if_neg (by first | omega | assumption), if_pos (by first | omega | assumption), thR_0 (by assumption)], rfl, by show _ = (clC M x n).2; unfold clC; rw [if_neg (by first | omega | assumption), if_neg (by first | omega | assumption), if_neg (by first | omega | assumption), if_pos (by first | omega | assumption), thR_0 (by assumption)]⟩ | exact ⟨by show _ = some (0, (clC M x n).1); unfold clC; rw [if_neg (by first | omega | assumption), if_neg (by first | omega | assumption), if_neg (by first | omega | assumption), if_pos (by first | omega | assumption), thR_1 (by assumption), thR_0 (by assumption)], rfl, by show _ = (clC M x n).2; unfold clC; rw [if_neg (by first | omega | assumption), if_neg (by first | omega | assumption), if_neg (by first | omega | assumption), if_pos (by first | omega | assumption), thR_1 (by assumption), thR_0 (by assumption)]⟩ | exact ⟨by show _ = some (0, (clC M x n).1); unfold clC; rw [if_neg (by first | omega | assumption), if_neg (by first | omega | assumption), if_neg (by first | omega | assumption), if_pos (by first | omega | assumption), thR_1 (by assumption), thR_1 (by assumption)], rfl, by show _ = (clC M x n).2; unfold clC; rw [if_neg (by first | omega | assumption), if_neg (by first | omega | assumption), if_neg (by first | omega | assumption), if_pos (by first | omega | assumption), thR_1 (by assumption), thR_1 (by assumption)]⟩
          · refine r_aload_n dX4_readClause_81 rfl (by decide) ?_
            refine r_bipush dX4_readClause_82 (by decide) (by decide) ?_
            refine r_cv1 dX4_readClause_84 clX4_50 sf2 (by decide) (by decide) rfl (by first | decide | omega) (Nat.le_of_ble_eq_true rfl) (c_refuse) ⟨Nat.zero_le _, Nat.zero_le _⟩ (fun _ => ?_)
            refine r_zret dX4_readClause_87 rfl (by omega) ?_
            first | (exfalso; omega) | exact ⟨by show _ = some (0, (clC M x n).1); unfold clC; rw [if_neg (by first | omega | assumption), if_neg (by first | omega | assumption), if_pos (by first | omega | assumption)], rfl, by show _ = (clC M x n).2; unfold clC; rw [if_neg (by first | omega | assumption), if_neg (by first | omega | assumption), if_pos (by first | omega | assumption)]⟩
        · try have h44 := bi_1.mp h44
          refine r_aload_n dX4_readClause_47 rfl (by decide) ?_
          refine r_getr (x := x) dX4_readClause_48 flX4_25 sf2 (by decide) (by decide) rfl rfl ?_
          refine r_getr (x := x + 1) dX4_readClause_51 flX4_57 x0 (by decide) (by omega) rfl rfl ?_
          refine r_aload_n dX4_readClause_54 rfl (by decide) ?_
          refine r_gi 9 dX4_readClause_55 flX4_54 sf2 (by decide) (by decide) rfl rfl (up_eq ⟨rfl, rfl⟩) ?_
          refine r_iald dX4_readClause_58 x1 (by omega) (by omega) (by omega) (by decide) (up_ne (by omega)) ?_
          refine r_iconst dX4_readClause_59 (by decide) ?_
          refine r_icmp_eq (tgt := 69) dX4_readClause_60 (by decide) (fun h60 => ?_) (fun h60 => ?_)
          · refine r_aload_n dX4_readClause_69 rfl (by decide) ?_
            refine r_getr (x := x) dX4_readClause_70 flX4_25 sf2 (by decide) (by decide) rfl rfl ?_
            refine r_gi 0 dX4_readClause_73 flX4_60 x0 (by decide) (by omega) rfl rfl (up_ne (by omega)) ?_
            refine r_bipush dX4_readClause_76 (by decide) (by decide) ?_
            refine r_icmp_lt (tgt := 88) dX4_readClause_78 (by decide) (fun h78 => ?_) (fun h78 => ?_)
            · refine r_aload_n dX4_readClause_88 rfl (by decide) ?_
              refine r_getr (x := x) dX4_readClause_89 flX4_25 sf2 (by decide) (by decide) rfl rfl ?_
              refine r_iload_n dX4_readClause_92 rfl ?_
              refine r_cw1 dX4_readClause_93 clX4_63 x0 (by omega) (by decide) rfl (by first | decide | omega) (Nat.le_of_ble_eq_true rfl) ((c_begin hq hx u9.2.2.2.2)) ⟨Nat.zero_le _, Nat.zero_le _⟩ ?_
              refine r_aload_n dX4_readClause_96 rfl (by decide) ?_
              refine r_cw0 dX4_readClause_97 clX4_37 sf2 (by decide) (by decide) rfl (by first | decide | omega) (Nat.le_of_ble_eq_true rfl) ((c_go ub.1 ub.2.1 ub.2.2.1)) ⟨Nat.zero_le _, Nat.zero_le _⟩ ?_
              refine r_iload_n dX4_readClause_100 rfl ?_
              refine r_if_ne (tgt := 126) dX4_readClause_101 (by decide) (fun h101 => ?_) (fun h101 => ?_)
              · try have h101 := bi_1.mp h101
                refine r_aload_n dX4_readClause_126 rfl (by decide) ?_
                refine r_getr (x := x) dX4_readClause_127 flX4_25 sf2 (by decide) (by decide) rfl rfl ?_
                refine r_getr (x := x + 1) dX4_readClause_130 flX4_57 x0 (by decide) (by omega) rfl rfl ?_
                refine r_aload_n dX4_readClause_133 rfl (by decide) ?_
                refine r_gi 9 dX4_readClause_134 flX4_54 sf2 (by decide) (by decide) rfl rfl e9 ?_
                refine r_aload_n dX4_readClause_137 rfl (by decide) ?_
                refine r_getr (x := x) dX4_readClause_138 flX4_25 sf2 (by decide) (by decide) rfl rfl ?_
                refine r_gi 1 dX4_readClause_141 flX4_73 x0 (by decide) (by omega) rfl rfl e1 ?_
                refine r_iast dX4_readClause_144 x1 (by omega) (by omega) (by omega) (by decide) rfl ?_
                refine r_aload_n dX4_readClause_145 rfl (by decide) ?_
                refine r_iconst dX4_readClause_146 (by decide) ?_
                refine r_cv1 dX4_readClause_147 clX4_74 sf2 (by decide) (by decide) rfl (by first | decide | omega) (Nat.le_of_ble_eq_true rfl) (((c_rd hq hx 83 0 (by decide)).1 (by decide) _ ul)) ⟨Nat.zero_le _, Nat.zero_le _⟩ (fun _ => ?_)
                refine r_if_eq (tgt := 165) dX4_readClause_150 (by decide) (fun h150 => ?_) (fun h150 => ?_)
                · refine r_iconst dX4_readClause_165 (by decide) ?_
                  refine r_zret dX4_readClause_166 rfl (by omega) ?_
                  first | (exfalso; omega) | exact ⟨by show _ = some (0, (clC M x n).1); unfold clC; rw [if_neg (by first | omega | assumption), if_neg (by first | omega | assumption), if_neg (by first | omega | assumption), if_neg (by first | omega | assumption), thR_0 (by assumption)], rfl, by show _ = (clC M x n).2; unfold clC; rw [if_neg (by first | omega | assumption), if_neg (by first | omega | assumption), if_neg (by first | omega | assumption), if_neg (by first | omega | assumption), thR_0 (by assumption)]⟩ | exact ⟨by show _ = some (0, (clC M x n).1); unfold clC; rw [if_neg (by first | omega | assumption), if_neg (by first | omega | assumption), if_neg (by first | omega | assumption), if_neg (by first | omega | assumption), thR_1 (by assumption), thR_0 (by assumption)], rfl, by show _ = (clC M x n).2; unfold clC; rw [if_neg (by first | omega | assumption), if_neg (by first | omega | assumption), if_neg (by first | omega | assumption), if_neg (by first | omega | assumption), thR_1 (by assumption), thR_0 (by assumption)]⟩ | exact ⟨by show _ = some (0, (clC M x n).1); unfold clC; rw [if_neg (by first | omega | assumption), if_neg (by first | omega | assumption), if_neg (by first | omega | assumption), if_neg (by first | omega | assumption), thR_1 (by assumption), thR_1 (by assumption)], rfl, by show _ = (clC M x n).2; unfold clC; rw [if_neg (by first | omega | assumption), if_neg (by first | omega | assumption), if_neg (by first | omega | assumption), if_neg (by first | omega | assumption), thR_1 (by assumption), thR_1 (by assumption)]⟩
                · refine r_aload_n dX4_readClause_153 rfl (by decide) ?_
                  refine r_iconst dX4_readClause_154 (by decide) ?_
                  refine r_cv1 dX4_readClause_155 clX4_77 sf2 (by decide) (by decide) rfl (by first | decide | omega) (Nat.le_of_ble_eq_true rfl) ((c_passKept hq hx b3)) ⟨Nat.zero_le _, Nat.zero_le _⟩ (fun _ => ?_)
                  refine r_if_eq (tgt := 165) dX4_readClause_158 (by decide) (fun h158 => ?_) (fun h158 => ?_)
                  · refine r_iconst dX4_readClause_165 (by decide) ?_
                    refine r_zret dX4_readClause_166 rfl (by omega) ?_
                    first | (exfalso; omega) | exact ⟨by show _ = some (0, (clC M x n).1); unfold clC; rw [if_neg (by first | omega | assumption), if_neg (by first | omega | assumption), if_neg (by first | omega | assumption), if_neg (by first | omega | assumption), thR_0 (by assumption)], rfl, by show _ = (clC M x n).2; unfold clC; rw [if_neg (by first | omega | assumption), if_neg (by first | omega | assumption), if_neg (by first | omega | assumption), if_neg (by first | omega | assumption), thR_0 (by assumption)]⟩ | exact ⟨by show _ = some (0, (clC M x n).1); unfold clC; rw [if_neg (by first | omega | assumption), if_neg (by first | omega | assumption), if_neg (by first | omega | assumption), if_neg (by first | omega | assumption), thR_1 (by assumption), thR_0 (by assumption)], rfl, by show _ = (clC M x n).2; unfold clC; rw [if_neg (by first | omega | assumption), if_neg (by first | omega | assumption), if_neg (by first | omega | assumption), if_neg (by first | omega | assumption), thR_1 (by assumption), thR_0 (by assumption)]⟩ | exact ⟨by show _ = some (0, (clC M x n).1); unfold clC; rw [if_neg (by first | omega | assumption), if_neg (by first | omega | assumption), if_neg (by first | omega | assumption), if_neg (by first | omega | assumption), thR_1 (by assumption), thR_1 (by assumption)], rfl, by show _ = (clC M x n).2; unfold clC; rw [if_neg (by first | omega | assumption), if_neg (by first | omega | assumption), if_neg (by first | omega | assumption), if_neg (by first | omega | assumption), thR_1 (by assumption), thR_1 (by assumption)]⟩
                  · refine r_iconst dX4_readClause_161 (by decide) ?_
                    refine r_goto (tgt := 166) dX4_readClause_162 (by decide) ?_
                    refine r_zret dX4_readClause_166 rfl (by omega) ?_
                    first | (exfalso; omega) | exact ⟨by show _ = some (0, (clC M x n).1); unfold clC; rw [if_neg (by first | omega | assumption), if_neg (by first | omega | assumption), if_neg (by first | omega | assumption), if_neg (by first | omega | assumption), thR_0 (by assumption)], rfl, by show _ = (clC M x n).2; unfold clC; rw [if_neg (by first | omega | assumption), if_neg (by first | omega | assumption), if_neg (by first | omega | assumption), if_neg (by first | omega | assumption), thR_0 (by assumption)]⟩ | exact ⟨by show _ = some (0, (clC M x n).1); unfold clC; rw [if_neg (by first | omega | assumption), if_neg (by first | omega | assumption), if_neg (by first | omega | assumption), if_neg (by first | omega | assumption), thR_1 (by assumption), thR_0 (by assumption)], rfl, by show _ = (clC M x n).2; unfold clC; rw [if_neg (by first | omega | assumption), if_neg (by first | omega | assumption), if_neg (by first | omega | assumption), if_neg (by first | omega | assumption), thR_1 (by assumption), thR_0 (by assumption)]⟩ | exact ⟨by show _ = some (0, (clC M x n).1); unfold clC; rw [if_neg (by first | omega | assumption), if_neg (by first | omega | assumption), if_neg (by first | omega | assumption), if_neg (by first | omega | assumption), thR_1 (by assumption), thR_1 (by assumption)], rfl, by show _ = (clC M x n).2; unfold clC; rw [if_neg (by first | omega | assumption), if_neg (by first | omega | assumption), if_neg (by first | omega | assumption), if_neg (by first | omega | assumption), thR_1 (by assumption), thR_1 (by assumption)]⟩
              · try have h101 := bi_0.mp h101
                refine r_aload_n dX4_readClause_104 rfl (by decide) ?_
                refine r_iload_n dX4_readClause_105 rfl ?_
                refine r_cv1 dX4_readClause_106 clX4_67 sf2 (by decide) (by decide) rfl (by first | decide | omega) (Nat.le_of_ble_eq_true rfl) ((c_readDeed hq hx ug)) ⟨Nat.zero_le _, Nat.zero_le _⟩ (fun _ => ?_)
                refine r_if_eq (tgt := 124) dX4_readClause_109 (by decide) (fun h109 => ?_) (fun h109 => ?_)
                · refine r_iconst dX4_readClause_124 (by decide) ?_
                  refine r_zret dX4_readClause_125 rfl (by omega) ?_
                  first | (exfalso; omega) | exact ⟨by show _ = some (0, (clC M x n).1); unfold clC; rw [if_neg (by first | omega | assumption), if_neg (by first | omega | assumption), if_neg (by first | omega | assumption), if_pos (by first | omega | assumption), thR_0 (by assumption)], rfl, by show _ = (clC M x n).2; unfold clC; rw [if_neg (by first | omega | assumption), if_neg (by first | omega | assumption), if_neg (by first | omega | assumption), if_pos (by first | omega | assumption), thR_0 (by assumption)]⟩ | exact ⟨by show _ = some (0, (clC M x n).1); unfold clC; rw [if_neg (by first | omega | assumption), if_neg (by first | omega | assumption), if_neg (by first | omega | assumption), if_pos (by first | omega | assumption), thR_1 (by assumption), thR_0 (by assumption)], rfl, by show _ = (clC M x n).2; unfold clC; rw [if_neg (by first | omega | assumption), if_neg (by first | omega | assumption), if_neg (by first | omega | assumption), if_pos (by first | omega | assumption), thR_1 (by assumption), thR_0 (by assumption)]⟩ | exact ⟨by show _ = some (0, (clC M x n).1); unfold clC; rw [if_neg (by first | omega | assumption), if_neg (by first | omega | assumption), if_neg (by first | omega | assumption), if_pos (by first | omega | assumption), thR_1 (by assumption), thR_1 (by assumption)], rfl, by show _ = (clC M x n).2; unfold clC; rw [if_neg (by first | omega | assumption), if_neg (by first | omega | assumption), if_neg (by first | omega | assumption), if_pos (by first | omega | assumption), thR_1 (by assumption), thR_1 (by assumption)]⟩
                · refine r_aload_n dX4_readClause_112 rfl (by decide) ?_
                  refine r_iconst dX4_readClause_113 (by decide) ?_
                  refine r_cv1 dX4_readClause_114 clX4_70 sf2 (by decide) (by decide) rfl (by first | decide | omega) (Nat.le_of_ble_eq_true rfl) ((c_pass hq hx b1)) ⟨Nat.zero_le _, Nat.zero_le _⟩ (fun _ => ?_)
                  refine r_if_eq (tgt := 124) dX4_readClause_117 (by decide) (fun h117 => ?_) (fun h117 => ?_)
                  · refine r_iconst dX4_readClause_124 (by decide) ?_
                    refine r_zret dX4_readClause_125 rfl (by omega) ?_
                    first | (exfalso; omega) | exact ⟨by show _ = some (0, (clC M x n).1); unfold clC; rw [if_neg (by first | omega | assumption), if_neg (by first | omega | assumption), if_neg (by first | omega | assumption), if_pos (by first | omega | assumption), thR_0 (by assumption)], rfl, by show _ = (clC M x n).2; unfold clC; rw [if_neg (by first | omega | assumption), if_neg (by first | omega | assumption), if_neg (by first | omega | assumption), if_pos (by first | omega | assumption), thR_0 (by assumption)]⟩ | exact ⟨by show _ = some (0, (clC M x n).1); unfold clC; rw [if_neg (by first | omega | assumption), if_neg (by first | omega | assumption), if_neg (by first | omega | assumption), if_pos (by first | omega | assumption), thR_1 (by assumption), thR_0 (by assumption)], rfl, by show _ = (clC M x n).2; unfold clC; rw [if_neg (by first | omega | assumption), if_neg (by first | omega | assumption), if_neg (by first | omega | assumption), if_pos (by first | omega | assumption), thR_1 (by assumption), thR_0 (by assumption)]⟩ | exact ⟨by show _ = some (0, (clC M x n).1); unfold clC; rw [if_neg (by first | omega | assumption), if_neg (by first | omega | assumption), if_neg (by first | omega | assumption), if_pos (by first | omega | assumption), thR_1 (by assumption), thR_1 (by assumption)], rfl, by show _ = (clC M x n).2; unfold clC; rw [if_neg (by first | omega | assumption), if_neg (by first | omega | assumption), if_neg (by first | omega | assumption), if_pos (by first | omega | assumption), thR_1 (by assumption), thR_1 (by assumption)]⟩
                  · refine r_iconst dX4_readClause_120 (by decide) ?_
                    refine r_goto (tgt := 125) dX4_readClause_121 (by decide) ?_
                    refine r_zret dX4_readClause_125 rfl (by omega) ?_
                    first | (exfalso; omega) | exact ⟨by show _ = some (0, (clC M x n).1); unfold clC; rw [if_neg (by first | omega | assumption), if_neg (by first | omega | assumption), if_neg (by first | omega | assumption), if_pos (by first | omega | assumption), thR_0 (by assumption)], rfl, by show _ = (clC M x n).2; unfold clC; rw [if_neg (by first | omega | assumption), if_neg (by first | omega | assumption), if_neg (by first | omega | assumption), if_pos (by first | omega | assumption), thR_0 (by assumption)]⟩ | exact ⟨by show _ = some (0, (clC M x n).1); unfold clC; rw [if_neg (by first | omega | assumption), if_neg (by first | omega | assumption), if_neg (by first | omega | assumption), if_pos (by first | omega | assumption), thR_1 (by assumption), thR_0 (by assumption)], rfl, by show _ = (clC M x n).2; unfold clC; rw [if_neg (by first | omega | assumption), if_neg (by first | omega | assumption), if_neg (by first | omega | assumption), if_pos (by first | omega | assumption), thR_1 (by assumption), thR_0 (by assumption)]⟩ | exact ⟨by show _ = some (0, (clC M x n).1); unfold clC; rw [if_neg (by first | omega | assumption), if_neg (by first | omega | assumption), if_neg (by first | omega | assumption), if_pos (by first | omega | assumption), thR_1 (by assumption), thR_1 (by assumption)], rfl, by show _ = (clC M x n).2; unfold clC; rw [if_neg (by first | omega | assumption), if_neg (by first | omega | assumption), if_neg (by first | omega | assumption), if_pos (by first | omega | assumption), thR_1 (by assumption), thR_1 (by assumption)]⟩
            · refine r_aload_n dX4_readClause_81 rfl (by decide) ?_
              refine r_bipush dX4_readClause_82 (by decide) (by decide) ?_
              refine r_cv1 dX4_readClause_84 clX4_50 sf2 (by decide) (by decide) rfl (by first | decide | omega) (Nat.le_of_ble_eq_true rfl) (c_refuse) ⟨Nat.zero_le _, Nat.zero_le _⟩ (fun _ => ?_)
              refine r_zret dX4_readClause_87 rfl (by omega) ?_
              first | (exfalso; omega) | exact ⟨by show _ = some (0, (clC M x n).1); unfold clC; rw [if_neg (by first | omega | assumption), if_neg (by first | omega | assumption), if_pos (by first | omega | assumption)], rfl, by show _ = (clC M x n).2; unfold clC; rw [if_neg (by first | omega | assumption), if_neg (by first | omega | assumption), if_pos (by first | omega | assumption)]⟩
          · refine r_aload_n dX4_readClause_63 rfl (by decide) ?_
            refine r_iconst dX4_readClause_64 (by decide) ?_
            refine r_cv1 dX4_readClause_65 clX4_50 sf2 (by decide) (by decide) rfl (by first | decide | omega) (Nat.le_of_ble_eq_true rfl) (c_refuse) ⟨Nat.zero_le _, Nat.zero_le _⟩ (fun _ => ?_)
            refine r_zret dX4_readClause_68 rfl (by omega) ?_
            first | (exfalso; omega) | exact ⟨by show _ = some (0, (clC M x n).1); unfold clC; rw [if_neg (by first | omega | assumption), if_pos (by first | omega | assumption)], rfl, by show _ = (clC M x n).2; unfold clC; rw [if_neg (by first | omega | assumption), if_pos (by first | omega | assumption)]⟩
      · refine r_iconst dX4_readClause_29 (by decide) ?_
        refine r_goto (tgt := 34) dX4_readClause_30 (by decide) ?_
        refine r_istore_n dX4_readClause_34 rfl (by decide) st2 ?_
        refine r_aload_n dX4_readClause_35 rfl (by decide) ?_
        refine r_iload_n dX4_readClause_36 rfl ?_
        refine r_bipush dX4_readClause_37 (by decide) (by decide) ?_
        refine r_isub dX4_readClause_39 (w32_id (by omega)) ?_
        refine r_pi 9 dX4_readClause_40 fpX4_54 sf2 (by decide) (by decide) rfl rfl ?_
        refine r_iload_n dX4_readClause_43 rfl ?_
        refine r_if_eq (tgt := 69) dX4_readClause_44 (by decide) (fun h44 => ?_) (fun h44 => ?_)
        · try have h44 := bi_0.mp h44
          refine r_aload_n dX4_readClause_69 rfl (by decide) ?_
          refine r_getr (x := x) dX4_readClause_70 flX4_25 sf2 (by decide) (by decide) rfl rfl ?_
          refine r_gi 0 dX4_readClause_73 flX4_60 x0 (by decide) (by omega) rfl rfl (up_ne (by omega)) ?_
          refine r_bipush dX4_readClause_76 (by decide) (by decide) ?_
          refine r_icmp_lt (tgt := 88) dX4_readClause_78 (by decide) (fun h78 => ?_) (fun h78 => ?_)
          · refine r_aload_n dX4_readClause_88 rfl (by decide) ?_
            refine r_getr (x := x) dX4_readClause_89 flX4_25 sf2 (by decide) (by decide) rfl rfl ?_
            refine r_iload_n dX4_readClause_92 rfl ?_
            refine r_cw1 dX4_readClause_93 clX4_63 x0 (by omega) (by decide) rfl (by first | decide | omega) (Nat.le_of_ble_eq_true rfl) ((c_begin hq hx u9.2.2.2.2)) ⟨Nat.zero_le _, Nat.zero_le _⟩ ?_
            refine r_aload_n dX4_readClause_96 rfl (by decide) ?_
            refine r_cw0 dX4_readClause_97 clX4_37 sf2 (by decide) (by decide) rfl (by first | decide | omega) (Nat.le_of_ble_eq_true rfl) ((c_go ub.1 ub.2.1 ub.2.2.1)) ⟨Nat.zero_le _, Nat.zero_le _⟩ ?_
            refine r_iload_n dX4_readClause_100 rfl ?_
            refine r_if_ne (tgt := 126) dX4_readClause_101 (by decide) (fun h101 => ?_) (fun h101 => ?_)
            · try have h101 := bi_1.mp h101
              refine r_aload_n dX4_readClause_126 rfl (by decide) ?_
              refine r_getr (x := x) dX4_readClause_127 flX4_25 sf2 (by decide) (by decide) rfl rfl ?_
              refine r_getr (x := x + 1) dX4_readClause_130 flX4_57 x0 (by decide) (by omega) rfl rfl ?_
              refine r_aload_n dX4_readClause_133 rfl (by decide) ?_
              refine r_gi 9 dX4_readClause_134 flX4_54 sf2 (by decide) (by decide) rfl rfl e9 ?_
              refine r_aload_n dX4_readClause_137 rfl (by decide) ?_
              refine r_getr (x := x) dX4_readClause_138 flX4_25 sf2 (by decide) (by decide) rfl rfl ?_
              refine r_gi 1 dX4_readClause_141 flX4_73 x0 (by decide) (by omega) rfl rfl e1 ?_
              refine r_iast dX4_readClause_144 x1 (by omega) (by omega) (by omega) (by decide) rfl ?_
              refine r_aload_n dX4_readClause_145 rfl (by decide) ?_
              refine r_iconst dX4_readClause_146 (by decide) ?_
              refine r_cv1 dX4_readClause_147 clX4_74 sf2 (by decide) (by decide) rfl (by first | decide | omega) (Nat.le_of_ble_eq_true rfl) (((c_rd hq hx 83 0 (by decide)).1 (by decide) _ ul)) ⟨Nat.zero_le _, Nat.zero_le _⟩ (fun _ => ?_)
              refine r_if_eq (tgt := 165) dX4_readClause_150 (by decide) (fun h150 => ?_) (fun h150 => ?_)
              · refine r_iconst dX4_readClause_165 (by decide) ?_
                refine r_zret dX4_readClause_166 rfl (by omega) ?_
                first | (exfalso; omega) | exact ⟨by show _ = some (0, (clC M x n).1); unfold clC; rw [if_neg (by first | omega | assumption), if_neg (by first | omega | assumption), if_neg (by first | omega | assumption), if_neg (by first | omega | assumption), thR_0 (by assumption)], rfl, by show _ = (clC M x n).2; unfold clC; rw [if_neg (by first | omega | assumption), if_neg (by first | omega | assumption), if_neg (by first | omega | assumption), if_neg (by first | omega | assumption), thR_0 (by assumption)]⟩ | exact ⟨by show _ = some (0, (clC M x n).1); unfold clC; rw [if_neg (by first | omega | assumption), if_neg (by first | omega | assumption), if_neg (by first | omega | assumption), if_neg (by first | omega | assumption), thR_1 (by assumption), thR_0 (by assumption)], rfl, by show _ = (clC M x n).2; unfold clC; rw [if_neg (by first | omega | assumption), if_neg (by first | omega | assumption), if_neg (by first | omega | assumption), if_neg (by first | omega | assumption), thR_1 (by assumption), thR_0 (by assumption)]⟩ | exact ⟨by show _ = some (0, (clC M x n).1); unfold clC; rw [if_neg (by first | omega | assumption), if_neg (by first | omega | assumption), if_neg (by first | omega | assumption), if_neg (by first | omega | assumption), thR_1 (by assumption), thR_1 (by assumption)], rfl, by show _ = (clC M x n).2; unfold clC; rw [if_neg (by first | omega | assumption), if_neg (by first | omega | assumption), if_neg (by first | omega | assumption), if_neg (by first | omega | assumption), thR_1 (by assumption), thR_1 (by assumption)]⟩
              · refine r_aload_n dX4_readClause_153 rfl (by decide) ?_
                refine r_iconst dX4_readClause_154 (by decide) ?_
                refine r_cv1 dX4_readClause_155 clX4_77 sf2 (by decide) (by decide) rfl (by first | decide | omega) (Nat.le_of_ble_eq_true rfl) ((c_passKept hq hx b3)) ⟨Nat.zero_le _, Nat.zero_le _⟩ (fun _ => ?_)
                refine r_if_eq (tgt := 165) dX4_readClause_158 (by decide) (fun h158 => ?_) (fun h158 => ?_)
                · refine r_iconst dX4_readClause_165 (by decide) ?_
                  refine r_zret dX4_readClause_166 rfl (by omega) ?_
                  first | (exfalso; omega) | exact ⟨by show _ = some (0, (clC M x n).1); unfold clC; rw [if_neg (by first | omega | assumption), if_neg (by first | omega | assumption), if_neg (by first | omega | assumption), if_neg (by first | omega | assumption), thR_0 (by assumption)], rfl, by show _ = (clC M x n).2; unfold clC; rw [if_neg (by first | omega | assumption), if_neg (by first | omega | assumption), if_neg (by first | omega | assumption), if_neg (by first | omega | assumption), thR_0 (by assumption)]⟩ | exact ⟨by show _ = some (0, (clC M x n).1); unfold clC; rw [if_neg (by first | omega | assumption), if_neg (by first | omega | assumption), if_neg (by first | omega | assumption), if_neg (by first | omega | assumption), thR_1 (by assumption), thR_0 (by assumption)], rfl, by show _ = (clC M x n).2; unfold clC; rw [if_neg (by first | omega | assumption), if_neg (by first | omega | assumption), if_neg (by first | omega | assumption), if_neg (by first | omega | assumption), thR_1 (by assumption), thR_0 (by assumption)]⟩ | exact ⟨by show _ = some (0, (clC M x n).1); unfold clC; rw [if_neg (by first | omega | assumption), if_neg (by first | omega | assumption), if_neg (by first | omega | assumption), if_neg (by first | omega | assumption), thR_1 (by assumption), thR_1 (by assumption)], rfl, by show _ = (clC M x n).2; unfold clC; rw [if_neg (by first | omega | assumption), if_neg (by first | omega | assumption), if_neg (by first | omega | assumption), if_neg (by first | omega | assumption), thR_1 (by assumption), thR_1 (by assumption)]⟩
                · refine r_iconst dX4_readClause_161 (by decide) ?_
                  refine r_goto (tgt := 166) dX4_readClause_162 (by decide) ?_
                  refine r_zret dX4_readClause_166 rfl (by omega) ?_
                  first | (exfalso; omega) | exact ⟨by show _ = some (0, (clC M x n).1); unfold clC; rw [if_neg (by first | omega | assumption), if_neg (by first | omega | assumption), if_neg (by first | omega | assumption), if_neg (by first | omega | assumption), thR_0 (by assumption)], rfl, by show _ = (clC M x n).2; unfold clC; rw [if_neg (by first | omega | assumption), if_neg (by first | omega | assumption), if_neg (by first | omega | assumption), if_neg (by first | omega | assumption), thR_0 (by assumption)]⟩ | exact ⟨by show _ = some (0, (clC M x n).1); unfold clC; rw [if_neg (by first | omega | assumption), if_neg (by first | omega | assumption), if_neg (by first | omega | assumption), if_neg (by first | omega | assumption), thR_1 (by assumption), thR_0 (by assumption)], rfl, by show _ = (clC M x n).2; unfold clC; rw [if_neg (by first | omega | assumption), if_neg (by first | omega | assumption), if_neg (by first | omega | assumption), if_neg (by first | omega | assumption), thR_1 (by assumption), thR_0 (by assumption)]⟩ | exact ⟨by show _ = some (0, (clC M x n).1); unfold clC; rw [if_neg (by first | omega | assumption), if_neg (by first | omega | assumption), if_neg (by first | omega | assumption), if_neg (by first | omega | assumption), thR_1 (by assumption), thR_1 (by assumption)], rfl, by show _ = (clC M x n).2; unfold clC; rw [if_neg (by first | omega | assumption), if_neg (by first | omega | assumption), if_neg (by first | omega | assumption), if_neg (by first | omega | assumption), thR_1 (by assumption), thR_1 (by assumption)]⟩
            · try have h101 := bi_0.mp h101
              refine r_aload_n dX4_readClause_104 rfl (by decide) ?_
              refine r_iload_n dX4_readClause_105 rfl ?_
              refine r_cv1 dX4_readClause_106 clX4_67 sf2 (by decide) (by decide) rfl (by first | decide | omega) (Nat.le_of_ble_eq_true rfl) ((c_readDeed hq hx ug)) ⟨Nat.zero_le _, Nat.zero_le _⟩ (fun _ => ?_)
              refine r_if_eq (tgt := 124) dX4_readClause_109 (by decide) (fun h109 => ?_) (fun h109 => ?_)
              · refine r_iconst dX4_readClause_124 (by decide) ?_
                refine r_zret dX4_readClause_125 rfl (by omega) ?_
                first | (exfalso; omega) | exact ⟨by show _ = some (0, (clC M x n).1); unfold clC; rw [if_neg (by first | omega | assumption), if_neg (by first | omega | assumption), if_neg (by first | omega | assumption), if_pos (by first | omega | assumption), thR_0 (by assumption)], rfl, by show _ = (clC M x n).2; unfold clC; rw [if_neg (by first | omega | assumption), if_neg (by first | omega | assumption), if_neg (by first | omega | assumption), if_pos (by first | omega | assumption), thR_0 (by assumption)]⟩ | exact ⟨by show _ = some (0, (clC M x n).1); unfold clC; rw [if_neg (by first | omega | assumption), if_neg (by first | omega | assumption), if_neg (by first | omega | assumption), if_pos (by first | omega | assumption), thR_1 (by assumption), thR_0 (by assumption)], rfl, by show _ = (clC M x n).2; unfold clC; rw [if_neg (by first | omega | assumption), if_neg (by first | omega | assumption), if_neg (by first | omega | assumption), if_pos (by first | omega | assumption), thR_1 (by assumption), thR_0 (by assumption)]⟩ | exact ⟨by show _ = some (0, (clC M x n).1); unfold clC; rw [if_neg (by first | omega | assumption), if_neg (by first | omega | assumption), if_neg (by first | omega | assumption), if_pos (by first | omega | assumption), thR_1 (by assumption), thR_1 (by assumption)], rfl, by show _ = (clC M x n).2; unfold clC; rw [if_neg (by first | omega | assumption), if_neg (by first | omega | assumption), if_neg (by first | omega | assumption), if_pos (by first | omega | assumption), thR_1 (by assumption), thR_1 (by assumption)]⟩
              · refine r_aload_n dX4_readClause_112 rfl (by decide) ?_
                refine r_iconst dX4_readClause_113 (by decide) ?_
                refine r_cv1 dX4_readClause_114 clX4_70 sf2 (by decide) (by decide) rfl (by first | decide | omega) (Nat.le_of_ble_eq_true rfl) ((c_pass hq hx b1)) ⟨Nat.zero_le _, Nat.zero_le _⟩ (fun _ => ?_)
                refine r_if_eq (tgt := 124) dX4_readClause_117 (by decide) (fun h117 => ?_) (fun h117 => ?_)
                · refine r_iconst dX4_readClause_124 (by decide) ?_
                  refine r_zret dX4_readClause_125 rfl (by omega) ?_
                  first | (exfalso; omega) | exact ⟨by show _ = some (0, (clC M x n).1); unfold clC; rw [if_neg (by first | omega | assumption), if_neg (by first | omega | assumption), if_neg (by first | omega | assumption), if_pos (by first | omega | assumption), thR_0 (by assumption)], rfl, by show _ = (clC M x n).2; unfold clC; rw [if_neg (by first | omega | assumption), if_neg (by first | omega | assumption), if_neg (by first | omega | assumption), if_pos (by first | omega | assumption), thR_0 (by assumption)]⟩ | exact ⟨by show _ = some (0, (clC M x n).1); unfold clC; rw [if_neg (by first | omega | assumption), if_neg (by first | omega | assumption), if_neg (by first | omega | assumption), if_pos (by first | omega | assumption), thR_1 (by assumption), thR_0 (by assumption)], rfl, by show _ = (clC M x n).2; unfold clC; rw [if_neg (by first | omega | assumption), if_neg (by first | omega | assumption), if_neg (by first | omega | assumption), if_pos (by first | omega | assumption), thR_1 (by assumption), thR_0 (by assumption)]⟩ | exact ⟨by show _ = some (0, (clC M x n).1); unfold clC; rw [if_neg (by first | omega | assumption), if_neg (by first | omega | assumption), if_neg (by first | omega | assumption), if_pos (by first | omega | assumption), thR_1 (by assumption), thR_1 (by assumption)], rfl, by show _ = (clC M x n).2; unfold clC; rw [if_neg (by first | omega | assumption), if_neg (by first | omega | assumption), if_neg (by first | omega | assumption), if_pos (by first | omega | assumption), thR_1 (by assumption), thR_1 (by assumption)]⟩
                · refine r_iconst dX4_readClause_120 (by decide) ?_
                  refine r_goto (tgt := 125) dX4_readClause_121 (by decide) ?_
                  refine r_zret dX4_readClause_125 rfl (by omega) ?_
                  first | (exfalso; omega) | exact ⟨by show _ = some (0, (clC M x n).1); unfold clC; rw [if_neg (by first | omega | assumption), if_neg (by first | omega | assumption), if_neg (by first | omega | assumption), if_pos (by first | omega | assumption), thR_0 (by assumption)], rfl, by show _ = (clC M x n).2; unfold clC; rw [if_neg (by first | omega | assumption), if_neg (by first | omega | assumption), if_neg (by first | omega | assumption), if_pos (by first | omega | assumption), thR_0 (by assumption)]⟩ | exact ⟨by show _ = some (0, (clC M x n).1); unfold clC; rw [if_neg (by first | omega | assumption), if_neg (by first | omega | assumption), if_neg (by first | omega | assumption), if_pos (by first | omega | assumption), thR_1 (by assumption), thR_0 (by assumption)], rfl, by show _ = (clC M x n).2; unfold clC; rw [if_neg (by first | omega | assumption), if_neg (by first | omega | assumption), if_neg (by first | omega | assumption), if_pos (by first | omega | assumption), thR_1 (by assumption), thR_0 (by assumption)]⟩ | exact ⟨by show _ = some (0, (clC M x n).1); unfold clC; rw [if_neg (by first | omega | assumption), if_neg (by first | omega | assumption), if_neg (by first | omega | assumption), if_pos (by first | omega | assumption), thR_1 (by assumption), thR_1 (by assumption)], rfl, by show _ = (clC M x n).2; unfold clC; rw [if_neg (by first | omega | assumption), if_neg (by first | omega | assumption), if_neg (by first | omega | assumption), if_pos (by first | omega | assumption), thR_1 (by assumption), thR_1 (by assumption)]⟩
          · refine r_aload_n dX4_readClause_81 rfl (by decide) ?_
            refine r_bipush dX4_readClause_82 (by decide) (by decide) ?_
            refine r_cv1 dX4_readClause_84 clX4_50 sf2 (by decide) (by decide) rfl (by first | decide | omega) (Nat.le_of_ble_eq_true rfl) (c_refuse) ⟨Nat.zero_le _, Nat.zero_le _⟩ (fun _ => ?_)
            refine r_zret dX4_readClause_87 rfl (by omega) ?_
            first | (exfalso; omega) | exact ⟨by show _ = some (0, (clC M x n).1); unfold clC; rw [if_neg (by first | omega | assumption), if_neg (by first | omega | assumption), if_pos (by first | omega | assumption)], rfl, by show _ = (clC M x n).2; unfold clC; rw [if_neg (by first | omega | assumption), if_neg (by first | omega | assumption), if_pos (by first | omega | assumption)]⟩
        · try have h44 := bi_1.mp h44
          refine r_aload_n dX4_readClause_47 rfl (by decide) ?_
          refine r_getr (x := x) dX4_readClause_48 flX4_25 sf2 (by decide) (by decide) rfl rfl ?_
          refine r_getr (x := x + 1) dX4_readClause_51 flX4_57 x0 (by decide) (by omega) rfl rfl ?_
          refine r_aload_n dX4_readClause_54 rfl (by decide) ?_
          refine r_gi 9 dX4_readClause_55 flX4_54 sf2 (by decide) (by decide) rfl rfl (up_eq ⟨rfl, rfl⟩) ?_
          refine r_iald dX4_readClause_58 x1 (by omega) (by omega) (by omega) (by decide) (up_ne (by omega)) ?_
          refine r_iconst dX4_readClause_59 (by decide) ?_
          refine r_icmp_eq (tgt := 69) dX4_readClause_60 (by decide) (fun h60 => ?_) (fun h60 => ?_)
          · refine r_aload_n dX4_readClause_69 rfl (by decide) ?_
            refine r_getr (x := x) dX4_readClause_70 flX4_25 sf2 (by decide) (by decide) rfl rfl ?_
            refine r_gi 0 dX4_readClause_73 flX4_60 x0 (by decide) (by omega) rfl rfl (up_ne (by omega)) ?_
            refine r_bipush dX4_readClause_76 (by decide) (by decide) ?_
            refine r_icmp_lt (tgt := 88) dX4_readClause_78 (by decide) (fun h78 => ?_) (fun h78 => ?_)
            · refine r_aload_n dX4_readClause_88 rfl (by decide) ?_
              refine r_getr (x := x) dX4_readClause_89 flX4_25 sf2 (by decide) (by decide) rfl rfl ?_
              refine r_iload_n dX4_readClause_92 rfl ?_
              refine r_cw1 dX4_readClause_93 clX4_63 x0 (by omega) (by decide) rfl (by first | decide | omega) (Nat.le_of_ble_eq_true rfl) ((c_begin hq hx u9.2.2.2.2)) ⟨Nat.zero_le _, Nat.zero_le _⟩ ?_
              refine r_aload_n dX4_readClause_96 rfl (by decide) ?_
              refine r_cw0 dX4_readClause_97 clX4_37 sf2 (by decide) (by decide) rfl (by first | decide | omega) (Nat.le_of_ble_eq_true rfl) ((c_go ub.1 ub.2.1 ub.2.2.1)) ⟨Nat.zero_le _, Nat.zero_le _⟩ ?_
              refine r_iload_n dX4_readClause_100 rfl ?_
              refine r_if_ne (tgt := 126) dX4_readClause_101 (by decide) (fun h101 => ?_) (fun h101 => ?_)
              · try have h101 := bi_1.mp h101
                refine r_aload_n dX4_readClause_126 rfl (by decide) ?_
                refine r_getr (x := x) dX4_readClause_127 flX4_25 sf2 (by decide) (by decide) rfl rfl ?_
                refine r_getr (x := x + 1) dX4_readClause_130 flX4_57 x0 (by decide) (by omega) rfl rfl ?_
                refine r_aload_n dX4_readClause_133 rfl (by decide) ?_
                refine r_gi 9 dX4_readClause_134 flX4_54 sf2 (by decide) (by decide) rfl rfl e9 ?_
                refine r_aload_n dX4_readClause_137 rfl (by decide) ?_
                refine r_getr (x := x) dX4_readClause_138 flX4_25 sf2 (by decide) (by decide) rfl rfl ?_
                refine r_gi 1 dX4_readClause_141 flX4_73 x0 (by decide) (by omega) rfl rfl e1 ?_
                refine r_iast dX4_readClause_144 x1 (by omega) (by omega) (by omega) (by decide) rfl ?_
                refine r_aload_n dX4_readClause_145 rfl (by decide) ?_
                refine r_iconst dX4_readClause_146 (by decide) ?_
                refine r_cv1 dX4_readClause_147 clX4_74 sf2 (by decide) (by decide) rfl (by first | decide | omega) (Nat.le_of_ble_eq_true rfl) (((c_rd hq hx 83 0 (by decide)).1 (by decide) _ ul)) ⟨Nat.zero_le _, Nat.zero_le _⟩ (fun _ => ?_)
                refine r_if_eq (tgt := 165) dX4_readClause_150 (by decide) (fun h150 => ?_) (fun h150 => ?_)
                · refine r_iconst dX4_readClause_165 (by decide) ?_
                  refine r_zret dX4_readClause_166 rfl (by omega) ?_
                  first | (exfalso; omega) | exact ⟨by show _ = some (0, (clC M x n).1); unfold clC; rw [if_neg (by first | omega | assumption), if_neg (by first | omega | assumption), if_neg (by first | omega | assumption), if_neg (by first | omega | assumption), thR_0 (by assumption)], rfl, by show _ = (clC M x n).2; unfold clC; rw [if_neg (by first | omega | assumption), if_neg (by first | omega | assumption), if_neg (by first | omega | assumption), if_neg (by first | omega | assumption), thR_0 (by assumption)]⟩ | exact ⟨by show _ = some (0, (clC M x n).1); unfold clC; rw [if_neg (by first | omega | assumption), if_neg (by first | omega | assumption), if_neg (by first | omega | assumption), if_neg (by first | omega | assumption), thR_1 (by assumption), thR_0 (by assumption)], rfl, by show _ = (clC M x n).2; unfold clC; rw [if_neg (by first | omega | assumption), if_neg (by first | omega | assumption), if_neg (by first | omega | assumption), if_neg (by first | omega | assumption), thR_1 (by assumption), thR_0 (by assumption)]⟩ | exact ⟨by show _ = some (0, (clC M x n).1); unfold clC; rw [if_neg (by first | omega | assumption), if_neg (by first | omega | assumption), if_neg (by first | omega | assumption), if_neg (by first | omega | assumption), thR_1 (by assumption), thR_1 (by assumption)], rfl, by show _ = (clC M x n).2; unfold clC; rw [if_neg (by first | omega | assumption), if_neg (by first | omega | assumption), if_neg (by first | omega | assumption), if_neg (by first | omega | assumption), thR_1 (by assumption), thR_1 (by assumption)]⟩
                · refine r_aload_n dX4_readClause_153 rfl (by decide) ?_
                  refine r_iconst dX4_readClause_154 (by decide) ?_
                  refine r_cv1 dX4_readClause_155 clX4_77 sf2 (by decide) (by decide) rfl (by first | decide | omega) (Nat.le_of_ble_eq_true rfl) ((c_passKept hq hx b3)) ⟨Nat.zero_le _, Nat.zero_le _⟩ (fun _ => ?_)
                  refine r_if_eq (tgt := 165) dX4_readClause_158 (by decide) (fun h158 => ?_) (fun h158 => ?_)
                  · refine r_iconst dX4_readClause_165 (by decide) ?_
                    refine r_zret dX4_readClause_166 rfl (by omega) ?_
                    first | (exfalso; omega) | exact ⟨by show _ = some (0, (clC M x n).1); unfold clC; rw [if_neg (by first | omega | assumption), if_neg (by first | omega | assumption), if_neg (by first | omega | assumption), if_neg (by first | omega | assumption), thR_0 (by assumption)], rfl, by show _ = (clC M x n).2; unfold clC; rw [if_neg (by first | omega | assumption), if_neg (by first | omega | assumption), if_neg (by first | omega | assumption), if_neg (by first | omega | assumption), thR_0 (by assumption)]⟩ | exact ⟨by show _ = some (0, (clC M x n).1); unfold clC; rw [if_neg (by first | omega | assumption), if_neg (by first | omega | assumption), if_neg (by first | omega | assumption), if_neg (by first | omega | assumption), thR_1 (by assumption), thR_0 (by assumption)], rfl, by show _ = (clC M x n).2; unfold clC; rw [if_neg (by first | omega | assumption), if_neg (by first | omega | assumption), if_neg (by first | omega | assumption), if_neg (by first | omega | assumption), thR_1 (by assumption), thR_0 (by assumption)]⟩ | exact ⟨by show _ = some (0, (clC M x n).1); unfold clC; rw [if_neg (by first | omega | assumption), if_neg (by first | omega | assumption), if_neg (by first | omega | assumption), if_neg (by first | omega | assumption), thR_1 (by assumption), thR_1 (by assumption)], rfl, by show _ = (clC M x n).2; unfold clC; rw [if_neg (by first | omega | assumption), if_neg (by first | omega | assumption), if_neg (by first | omega | assumption), if_neg (by first | omega | assumption), thR_1 (by assumption), thR_1 (by assumption)]⟩
                  · refine r_iconst dX4_readClause_161 (by decide) ?_
                    refine r_goto (tgt := 166) dX4_readClause_162 (by decide) ?_
                    refine r_zret dX4_readClause_166 rfl (by omega) ?_
                    first | (exfalso; omega) | exact ⟨by show _ = some (0, (clC M x n).1); unfold clC; rw [if_neg (by first | omega | assumption), if_neg (by first | omega | assumption), if_neg (by first | omega | assumption), if_neg (by first | omega | assumption), thR_0 (by assumption)], rfl, by show _ = (clC M x n).2; unfold clC; rw [if_neg (by first | omega | assumption), if_neg (by first | omega | assumption), if_neg (by first | omega | assumption), if_neg (by first | omega | assumption), thR_0 (by assumption)]⟩ | exact ⟨by show _ = some (0, (clC M x n).1); unfold clC; rw [if_neg (by first | omega | assumption), if_neg (by first | omega | assumption), if_neg (by first | omega | assumption), if_neg (by first | omega | assumption), thR_1 (by assumption), thR_0 (by assumption)], rfl, by show _ = (clC M x n).2; unfold clC; rw [if_neg (by first | omega | assumption), if_neg (by first | omega | assumption), if_neg (by first | omega | assumption), if_neg (by first | omega | assumption), thR_1 (by assumption), thR_0 (by assumption)]⟩ | exact ⟨by show _ = some (0, (clC M x n).1); unfold clC; rw [if_neg (by first | omega | assumption), if_neg (by first | omega | assumption), if_neg (by first | omega | assumption), if_neg (by first | omega | assumption), thR_1 (by assumption), thR_1 (by assumption)], rfl, by show _ = (clC M x n).2; unfold clC; rw [if_neg (by first | omega | assumption), if_neg (by first | omega | assumption), if_neg (by first | omega | assumption), if_neg (by first | omega | assumption), thR_1 (by assumption), thR_1 (by assumption)]⟩
              · try have h101 := bi_0.mp h101
                refine r_aload_n dX4_readClause_104 rfl (by decide) ?_
                refine r_iload_n dX4_readClause_105 rfl ?_
                refine r_cv1 dX4_readClause_106 clX4_67 sf2 (by decide) (by decide) rfl (by first | decide | omega) (Nat.le_of_ble_eq_true rfl) ((c_readDeed hq hx ug)) ⟨Nat.zero_le _, Nat.zero_le _⟩ (fun _ => ?_)
                refine r_if_eq (tgt := 124) dX4_readClause_109 (by decide) (fun h109 => ?_) (fun h109 => ?_)
                · refine r_iconst dX4_readClause_124 (by decide) ?_
                  refine r_zret dX4_readClause_125 rfl (by omega) ?_
                  first | (exfalso; omega) | exact ⟨by show _ = some (0, (clC M x n).1); unfold clC; rw [if_neg (by first | omega | assumption), if_neg (by first | omega | assumption), if_neg (by first | omega | assumption), if_pos (by first | omega | assumption), thR_0 (by assumption)], rfl, by show _ = (clC M x n).2; unfold clC; rw [if_neg (by first | omega | assumption), if_neg (by first | omega | assumption), if_neg (by first | omega | assumption), if_pos (by first | omega | assumption), thR_0 (by assumption)]⟩ | exact ⟨by show _ = some (0, (clC M x n).1); unfold clC; rw [if_neg (by first | omega | assumption), if_neg (by first | omega | assumption), if_neg (by first | omega | assumption), if_pos (by first | omega | assumption), thR_1 (by assumption), thR_0 (by assumption)], rfl, by show _ = (clC M x n).2; unfold clC; rw [if_neg (by first | omega | assumption), if_neg (by first | omega | assumption), if_neg (by first | omega | assumption), if_pos (by first | omega | assumption), thR_1 (by assumption), thR_0 (by assumption)]⟩ | exact ⟨by show _ = some (0, (clC M x n).1); unfold clC; rw [if_neg (by first | omega | assumption), if_neg (by first | omega | assumption), if_neg (by first | omega | assumption), if_pos (by first | omega | assumption), thR_1 (by assumption), thR_1 (by assumption)], rfl, by show _ = (clC M x n).2; unfold clC; rw [if_neg (by first | omega | assumption), if_neg (by first | omega | assumption), if_neg (by first | omega | assumption), if_pos (by first | omega | assumption), thR_1 (by assumption), thR_1 (by assumption)]⟩
                · refine r_aload_n dX4_readClause_112 rfl (by decide) ?_
                  refine r_iconst dX4_readClause_113 (by decide) ?_
                  refine r_cv1 dX4_readClause_114 clX4_70 sf2 (by decide) (by decide) rfl (by first | decide | omega) (Nat.le_of_ble_eq_true rfl) ((c_pass hq hx b1)) ⟨Nat.zero_le _, Nat.zero_le _⟩ (fun _ => ?_)
                  refine r_if_eq (tgt := 124) dX4_readClause_117 (by decide) (fun h117 => ?_) (fun h117 => ?_)
                  · refine r_iconst dX4_readClause_124 (by decide) ?_
                    refine r_zret dX4_readClause_125 rfl (by omega) ?_
                    first | (exfalso; omega) | exact ⟨by show _ = some (0, (clC M x n).1); unfold clC; rw [if_neg (by first | omega | assumption), if_neg (by first | omega | assumption), if_neg (by first | omega | assumption), if_pos (by first | omega | assumption), thR_0 (by assumption)], rfl, by show _ = (clC M x n).2; unfold clC; rw [if_neg (by first | omega | assumption), if_neg (by first | omega | assumption), if_neg (by first | omega | assumption), if_pos (by first | omega | assumption), thR_0 (by assumption)]⟩ | exact ⟨by show _ = some (0, (clC M x n).1); unfold clC; rw [if_neg (by first | omega | assumption), if_neg (by first | omega | assumption), if_neg (by first | omega | assumption), if_pos (by first | omega | assumption), thR_1 (by assumption), thR_0 (by assumption)], rfl, by show _ = (clC M x n).2; unfold clC; rw [if_neg (by first | omega | assumption), if_neg (by first | omega | assumption), if_neg (by first | omega | assumption), if_pos (by first | omega | assumption), thR_1 (by assumption), thR_0 (by assumption)]⟩ | exact ⟨by show _ = some (0, (clC M x n).1); unfold clC; rw [if_neg (by first | omega | assumption), if_neg (by first | omega | assumption), if_neg (by first | omega | assumption), if_pos (by first | omega | assumption), thR_1 (by assumption), thR_1 (by assumption)], rfl, by show _ = (clC M x n).2; unfold clC; rw [if_neg (by first | omega | assumption), if_neg (by first | omega | assumption), if_neg (by first | omega | assumption), if_pos (by first | omega | assumption), thR_1 (by assumption), thR_1 (by assumption)]⟩
                  · refine r_iconst dX4_readClause_120 (by decide) ?_
                    refine r_goto (tgt := 125) dX4_readClause_121 (by decide) ?_
                    refine r_zret dX4_readClause_125 rfl (by omega) ?_
                    first | (exfalso; omega) | exact ⟨by show _ = some (0, (clC M x n).1); unfold clC; rw [if_neg (by first | omega | assumption), if_neg (by first | omega | assumption), if_neg (by first | omega | assumption), if_pos (by first | omega | assumption), thR_0 (by assumption)], rfl, by show _ = (clC M x n).2; unfold clC; rw [if_neg (by first | omega | assumption), if_neg (by first | omega | assumption), if_neg (by first | omega | assumption), if_pos (by first | omega | assumption), thR_0 (by assumption)]⟩ | exact ⟨by show _ = some (0, (clC M x n).1); unfold clC; rw [if_neg (by first | omega | assumption), if_neg (by first | omega | assumption), if_neg (by first | omega | assumption), if_pos (by first | omega | assumption), thR_1 (by assumption), thR_0 (by assumption)], rfl, by show _ = (clC M x n).2; unfold clC; rw [if_neg (by first | omega | assumption), if_neg (by first | omega | assumption), if_neg (by first | omega | assumption), if_pos (by first | omega | assumption), thR_1 (by assumption), thR_0 (by assumption)]⟩ | exact ⟨by show _ = some (0, (clC M x n).1); unfold clC; rw [if_neg (by first | omega | assumption), if_neg (by first | omega | assumption), if_neg (by first | omega | assumption), if_pos (by first | omega | assumption), thR_1 (by assumption), thR_1 (by assumption)], rfl, by show _ = (clC M x n).2; unfold clC; rw [if_neg (by first | omega | assumption), if_neg (by first | omega | assumption), if_neg (by first | omega | assumption), if_pos (by first | omega | assumption), thR_1 (by assumption), thR_1 (by assumption)]⟩
            · refine r_aload_n dX4_readClause_81 rfl (by decide) ?_
              refine r_bipush dX4_readClause_82 (by decide) (by decide) ?_
              refine r_cv1 dX4_readClause_84 clX4_50 sf2 (by decide) (by decide) rfl (by first | decide | omega) (Nat.le_of_ble_eq_true rfl) (c_refuse) ⟨Nat.zero_le _, Nat.zero_le _⟩ (fun _ => ?_)
              refine r_zret dX4_readClause_87 rfl (by omega) ?_
              first | (exfalso; omega) | exact ⟨by show _ = some (0, (clC M x n).1); unfold clC; rw [if_neg (by first | omega | assumption), if_neg (by first | omega | assumption), if_pos (by first | omega | assumption)], rfl, by show _ = (clC M x n).2; unfold clC; rw [if_neg (by first | omega | assumption), if_neg (by first | omega | assumption), if_pos (by first | omega | assumption)]⟩
          · refine r_aload_n dX4_readClause_63 rfl (by decide) ?_
            refine r_iconst dX4_readClause_64 (by decide) ?_
            refine r_cv1 dX4_readClause_65 clX4_50 sf2 (by decide) (by decide) rfl (by first | decide | omega) (Nat.le_of_ble_eq_true rfl) (c_refuse) ⟨Nat.zero_le _, Nat.zero_le _⟩ (fun _ => ?_)
            refine r_zret dX4_readClause_68 rfl (by omega) ?_
            first | (exfalso; omega) | exact ⟨by show _ = some (0, (clC M x n).1); unfold clC; rw [if_neg (by first | omega | assumption), if_pos (by first | omega | assumption)], rfl, by show _ = (clC M x n).2; unfold clC; rw [if_neg (by first | omega | assumption), if_pos (by first | omega | assumption)]⟩
    · refine r_aload_n dX4_readClause_17 rfl (by decide) ?_
      refine r_iconst dX4_readClause_18 (by decide) ?_
      refine r_cv1 dX4_readClause_19 clX4_50 sf2 (by decide) (by decide) rfl (by first | decide | omega) (Nat.le_of_ble_eq_true rfl) (c_refuse) ⟨Nat.zero_le _, Nat.zero_le _⟩ (fun _ => ?_)
      refine r_zret dX4_readClause_22 rfl (by omega) ?_
      first | (exfalso; omega) | exact ⟨by show _ = some (0, (clC M x n).1); unfold clC; rw [if_pos (by first | omega | assumption)], rfl, by show _ = (clC M x n).2; unfold clC; rw [if_pos (by first | omega | assumption)]⟩
def rdS (x : Int) (n : Nat) : Nat → Me → RV
  | 0, M => (1, M)
  | c + 1, M => if M 2 7 = 0 then (1, M) else thR (clC M x n) fun A => rdS x n c A
def rd0 (M : Me) (x : Int) (n : Nat) : Me := goC (up (up (up (emC M x) 2 1 0) 2 2 (-1)) 2 5 0) n
/-- the reading of the tape into the text at x -/
def readC (M : Me) (x : Int) (n : Nat) : RV := rdS x n 25 (rd0 M x n)
theorem emC_o {M : Me} {x a j : Int} (h : a ≠ x + 1 ∧ ¬ (a = x ∧ j = 0) ∧ ¬ (a = x ∧ j = 1)) : emC M x a j = M a j := by
  unfold emC
  exact (row1_o (by omega)).trans ((up_ne (by omega)).trans (up_ne (by omega)))
theorem PR.z0 {M : Me} {x : Int} {n : Nat} (h0 : M 2 0 = (n : Int)) (hn : n ≤ 300) (hx : 15 ≤ x ∧ x ≤ 39) : PR (up (up (up (emC M x) 2 1 0) 2 2 (-1)) 2 5 0) x n := by
  have e0 : emC M x x 0 = 0 := (row1_o (by omega)).trans ((up_ne (by omega)).trans (up_eq ⟨rfl, rfl⟩))
  have e1 : emC M x x 1 = 0 := (row1_o (by omega)).trans (up_eq ⟨rfl, rfl⟩)
  unfold PR
  rw [up_eq ⟨rfl, rfl⟩, up_ne (by omega), up_ne (by omega), up_ne (by omega), up_ne (by omega), up_ne (by omega), up_ne (by omega), up_ne (by omega), up_ne (by omega), up_ne (by omega), e0, e1, emC_o (by omega)]
  exact ⟨h0, hn, by omega, by decide, by decide⟩
theorem PR.r0 {M : Me} {x : Int} {n : Nat} (h0 : M 2 0 = (n : Int)) (hn : n ≤ 300) (hx : 15 ≤ x ∧ x ≤ 39) : PR (rd0 M x n) x n := (PR.z0 h0 hn hx).go hx
theorem GP.rds {x : Int} {n : Nat} (hx : 15 ≤ x ∧ x ≤ 39) : ∀ (c : Nat) (M : Me), PR M x n → GP n x (rdS x n c M) := by
  intro c
  induction c with
  | zero => intro M h; exact GP.o h
  | succ c ih =>
    intro M h
    unfold rdS
    split
    · exact GP.o h
    · exact GP.th (GP.cl h hx) ih
theorem GP.read {M : Me} {x : Int} {n : Nat} (h0 : M 2 0 = (n : Int)) (hn : n ≤ 300) (hx : 15 ≤ x ∧ x ≤ 39) : GP n x (readC M x n) := GP.rds hx _ _ (PR.r0 h0 hn hx)
theorem l_read {x y z : Int} (hq : TS (Sf x y z) x) (hx : 15 ≤ x ∧ x ≤ 39) {n : Nat} {w : Int} : ∀ (c i : Nat), c + i = 25 → ∀ M : Me, PR M x n → V kX4_read 0 0 93 none (Ex (some (0, (rdS x n c M).1)) (Sf x y z) (rdS x n c M).2) 33 [(1, 2), (1, w), (0, (i : Int))] [] (Sf x y z) M 0 0 := by
  obtain ⟨x0, x1, x2, x3, -, -, -, -, -⟩ := id hq
  intro c
  induction c with
  | zero =>
    intro i hi M hP
    refine r_iload_n dX4_read_33 rfl ?_
    refine r_bipush dX4_read_34 (by decide) (by decide) ?_
    refine r_icmp_gt (tgt := 61) dX4_read_36 (by decide) (fun h36 => ?_) (fun h36 => by exfalso; omega)
    refine r_iconst dX4_read_61 (by decide) ?_
    refine r_zret dX4_read_62 rfl (by omega) ?_
    exact ⟨rfl, rfl, rfl⟩
  | succ c ih =>
    intro i hi M hP
    by_cases h7 : M 2 7 = 0
    · have e : rdS x n (c + 1) M = (1, M) := if_pos h7
      rw [e]
      refine r_iload_n dX4_read_33 rfl ?_
      refine r_bipush dX4_read_34 (by decide) (by decide) ?_
      refine r_icmp_gt (tgt := 61) dX4_read_36 (by decide) (fun h36 => by exfalso; omega) (fun h36 => ?_)
      refine r_aload_n dX4_read_39 rfl (by decide) ?_
      refine r_gi 7 dX4_read_40 flX4_40 sf2 (by decide) (by decide) rfl rfl (by first | assumption | ((repeat (first | (apply rd_ne; · omega) | (apply rd_eq; · omega) | (apply rd_out; · omega) | (apply rd_in; · omega))); first | assumption | rfl)) ?_
      refine r_if_eq (tgt := 61) dX4_read_43 (by decide) (fun h43 => ?_) (fun h43 => ?_)
      · refine r_iconst dX4_read_61 (by decide) ?_
        refine r_zret dX4_read_62 rfl (by omega) ?_
        exact ⟨rfl, rfl, rfl⟩
      · first | exact absurd rfl (by assumption) | exact absurd h7 (by assumption)
    · by_cases h8 : (clC M x n).1 = 0
      · have e : rdS x n (c + 1) M = (0, (clC M x n).2) := (if_neg h7).trans (thR_0 h8)
        rw [e]
        refine r_iload_n dX4_read_33 rfl ?_
        refine r_bipush dX4_read_34 (by decide) (by decide) ?_
        refine r_icmp_gt (tgt := 61) dX4_read_36 (by decide) (fun h36 => by exfalso; omega) (fun h36 => ?_)
        refine r_aload_n dX4_read_39 rfl (by decide) ?_
        refine r_gi 7 dX4_read_40 flX4_40 sf2 (by decide) (by decide) rfl rfl (by first | assumption | ((repeat (first | (apply rd_ne; · omega) | (apply rd_eq; · omega) | (apply rd_out; · omega) | (apply rd_in; · omega))); first | assumption | rfl)) ?_
        refine r_if_eq (tgt := 61) dX4_read_43 (by decide) (fun h43 => ?_) (fun h43 => ?_)
        · exact absurd (by assumption) h7
        · refine r_aload_n dX4_read_46 rfl (by decide) ?_
          refine r_cv0 dX4_read_47 clX4_43 sf2 (by decide) (by decide) rfl (by first | decide | omega) (Nat.le_of_ble_eq_true rfl) ((c_readClause hq hx hP)) ⟨Nat.zero_le _, Nat.zero_le _⟩ (fun _ => ?_)
          refine r_if_ne (tgt := 55) dX4_read_50 (by decide) (fun h50 => ?_) (fun h50 => ?_)
          · exact absurd h8 (by assumption)
          · refine r_iconst dX4_read_53 (by decide) ?_
            refine r_zret dX4_read_54 rfl (by omega) ?_
            exact ⟨rfl, rfl, rfl⟩
      · have e : rdS x n (c + 1) M = rdS x n c (clC M x n).2 := (if_neg h7).trans (thR_1 h8)
        rw [e]
        have ih9 := ih (i + 1) (by omega) _ (GP.cl hP hx).1
        refine r_iload_n dX4_read_33 rfl ?_
        refine r_bipush dX4_read_34 (by decide) (by decide) ?_
        refine r_icmp_gt (tgt := 61) dX4_read_36 (by decide) (fun h36 => by exfalso; omega) (fun h36 => ?_)
        refine r_aload_n dX4_read_39 rfl (by decide) ?_
        refine r_gi 7 dX4_read_40 flX4_40 sf2 (by decide) (by decide) rfl rfl (by first | assumption | ((repeat (first | (apply rd_ne; · omega) | (apply rd_eq; · omega) | (apply rd_out; · omega) | (apply rd_in; · omega))); first | assumption | rfl)) ?_
        refine r_if_eq (tgt := 61) dX4_read_43 (by decide) (fun h43 => ?_) (fun h43 => ?_)
        · exact absurd (by assumption) h7
        · refine r_aload_n dX4_read_46 rfl (by decide) ?_
          refine r_cv0 dX4_read_47 clX4_43 sf2 (by decide) (by decide) rfl (by first | decide | omega) (Nat.le_of_ble_eq_true rfl) ((c_readClause hq hx hP)) ⟨Nat.zero_le _, Nat.zero_le _⟩ (fun _ => ?_)
          refine r_if_ne (tgt := 55) dX4_read_50 (by decide) (fun h50 => ?_) (fun h50 => ?_)
          · refine r_iinc dX4_read_55 rfl rfl (by decide) (w32_id (by omega)) st2 ?_
            refine r_goto (tgt := 33) dX4_read_58 (by decide) ?_
            exact ih9
          · exact absurd (by assumption) h8
theorem c_read {w x y z : Int} {M : Me} (hq : TS (Sf x y z) x) (hx : 15 ≤ x ∧ x ≤ 39) {n : Nat} (h0 : M 2 0 = (n : Int)) (hn : n ≤ 300) : Con kX4_read 93 0 0 [(1, 2), (1, x)] (Sf w y z) M (Ex (some (0, (readC M x n).1)) (Sf x y z) (readC M x n).2) := by
  refine Con.ofV (al := [(1, 2), (1, x), (9, 0)]) 1 (by decide) (Nat.le_of_ble_eq_true rfl) rfl ?_
  obtain ⟨x0, x1, x2, x3, -, -, -, -, -⟩ := id hq
  have z0 := PR.z0 (M := M) h0 hn hx
  refine r_aload_n dX4_read_0 rfl (by decide) ?_
  refine r_aload_n dX4_read_1 rfl (by omega) ?_
  refine r_putr dX4_read_2 fpX4_25 sf2 (by decide) (Nat.le_of_ble_eq_true rfl) (by decide) (by omega) rfl rfl ?_
  refine r_aload_n dX4_read_5 rfl (by decide) ?_
  refine r_getr (x := x) dX4_read_6 flX4_25 sf2 (by decide) (by decide) rfl rfl ?_
  refine r_cw0 dX4_read_9 clX4_29 x0 (by omega) (by decide) rfl (by first | decide | omega) (Nat.le_of_ble_eq_true rfl) ((c_empty hq hx)) ⟨Nat.zero_le _, Nat.zero_le _⟩ ?_
  refine r_aload_n dX4_read_12 rfl (by decide) ?_
  refine r_iconst dX4_read_13 (by decide) ?_
  refine r_pi 1 dX4_read_14 fpX4_9 sf2 (by decide) (by decide) rfl rfl ?_
  refine r_aload_n dX4_read_17 rfl (by decide) ?_
  refine r_iconst dX4_read_18 (by decide) ?_
  refine r_pi 2 dX4_read_19 fpX4_15 sf2 (by decide) (by decide) rfl rfl ?_
  refine r_aload_n dX4_read_22 rfl (by decide) ?_
  refine r_iconst dX4_read_23 (by decide) ?_
  refine r_pi 5 dX4_read_24 fpX4_34 sf2 (by decide) (by decide) rfl rfl ?_
  refine r_aload_n dX4_read_27 rfl (by decide) ?_
  refine r_cw0 dX4_read_28 clX4_37 sf2 (by decide) (by decide) rfl (by first | decide | omega) (Nat.le_of_ble_eq_true rfl) ((c_go z0.1 z0.2.1 z0.2.2.1)) ⟨Nat.zero_le _, Nat.zero_le _⟩ ?_
  refine r_iconst dX4_read_31 (by decide) ?_
  refine r_istore_n dX4_read_32 rfl (by decide) st2 ?_
  exact l_read hq hx 25 0 rfl _ (PR.r0 h0 hn hx)
