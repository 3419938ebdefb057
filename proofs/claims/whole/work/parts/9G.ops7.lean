theorem op_laughs {M : Me} (h : INV M) {t u c : Int} : OpR kX10_laughs kX11_laughs 1 1 [(0, t), (0, u), (0, c)] M := by
  have w7 := wa_7 h.1.hy.1
  obtain ⟨-, -, -, ⟨a3, b3⟩, -, -, -⟩ := h.1.1.2.2.2.2.2.o
  obtain ⟨n, hn⟩ := Int.eq_ofNat_of_zero_le w7.1
  have hn : M 430 7 = (n : Int) := hn
  have fo : ∀ a j : Int, a ≠ 14 → flaM M n t u c a j = M a j := fun a j q => by
    unfold flaM
    (repeat' split)
    · rfl
    · rfl
    · exact row1_o (by omega)
  have c9 : ∀ x y z : Int, Con kX10_laughs 1 0 0 [(1, 0), (0, t), (0, u), (0, c)] (Sf x y z) M (Ex (some (0, flaV M n t u c)) (Sf x y z) (flaM M n t u c)) := fun x y z => f_laughs (a3.trans hn) (by omega) (fun i g0 g1 => by
    have b := b3 i g0 (by omega)
    have w := wh_0 h.1.hy.1 (c := i) (by omega)
    rw [b.1]; exact ⟨b.2, w.2⟩)
  rw [v_la h.1 hn] at c9
  generalize hf : flaM M n t u c = f at fo c9
  have f7 := (fo 430 7 (by decide)).trans hn
  have e430 : f 430 = M 430 := funext fun j => fo 430 j (by decide)
  have mc : rlR M f → ∀ x y z : Int, _ := fun h1 x y z => m_laughs (x := x) (y := y) (z := z) (M := f) (t := t) (u := u) (c := c) (n := n) f7 (by omega) (fun i g0 g1 => by
    rw [e430]
    have b := b3 i g0 (by omega)
    have w := wh_0 h.1.hy.1 (c := i) (by omega)
    exact ⟨b.2, w.2⟩)
  have fin : ∀ g : Me, (∀ a j : Int, ¬ (438 ≤ a) → g a j = f a j) → (rlR M f → rlR f g) ∧ (rlR M f → DI f 430 → DI f 431 → DI g 430 ∧ DI g 431) ∧ (rlR M f → ∀ a j : Int, a < 429 → g a j = f a j) := fun g hg => ⟨fun h1 => by
      have h2 : rlR f f := h1.c (fun a j q => fo a j (by unfold scrC at q; omega)) (fun j g0 g1 => by rw [fo 10 j (by decide)]; exact h1.2.2.2.2.1.2 j g0 g1)
      exact h2.a (fun a j q0 q1 => hg a j (by omega)), fun h1 d0 d1 => ⟨d0.row (fun j => hg 430 j (by decide)), d1.row (fun j => hg 431 j (by decide))⟩, fun h1 a j q => hg a j (by omega)⟩
  by_cases q : (0 ≤ t ∧ t ≤ 99) ∧ (0 ≤ c ∧ c ≤ M 430 7 - 1)
  · by_cases z0 : u = 0
    · have F := fin (lwM f (fun c : Int => if c < ((n : Nat) : Int) then t * f 430 (162 + c) / (smW (fun i => f 430 (162 + i)) n) + zW (fun i => f 430 (162 + i)) t (smW (fun i => f 430 (162 + i)) n) n c else f 441 c) (fun c : Int => if c < ((n : Nat) : Int) then zW (fun i => f 430 (162 + i)) t (smW (fun i => f 430 (162 + i)) n) n c else f 442 c)) (fun a j w => lwM_o (by omega))
      refine OpR.mk (f := f) (g := lwM f (fun c : Int => if c < ((n : Nat) : Int) then t * f 430 (162 + c) / (smW (fun i => f 430 (162 + i)) n) + zW (fun i => f 430 (162 + i)) t (smW (fun i => f 430 (162 + i)) n) n c else f 441 c) (fun c : Int => if c < ((n : Nat) : Int) then zW (fun i => f 430 (162 + i)) t (smW (fun i => f 430 (162 + i)) n) n c else f 442 c)) h (fun x y z => ⟨x, y, z, c9 x y z⟩) (fun a j w => fo a j (by omega)) (fun h1 x y z => ?_) F.2.2 F.1 F.2.1
      refine (mc h1 x y z).at (fun v9 S9 M9 p => ?_)
      rw [e430] at p
      rw [if_neg (fun w => w.2 z0), if_pos ⟨q, z0⟩]
      rcases p with ⟨q0, ⟨p1, p2, p3⟩ | ⟨p1, p2, p3⟩ | ⟨p1, p2, p3⟩⟩
      · exact absurd z0 p1.2
      · exact ⟨p2, q0, p3.trans (by rw [e430])⟩
      · exact absurd q p1
    · have F := fin (row1 f 441 6 (tnS (fun i => f 430 (162 + i)) n t.toNat)) (fun a j w => row1_o (by omega))
      refine OpR.mk (f := f) (g := row1 f 441 6 (tnS (fun i => f 430 (162 + i)) n t.toNat)) h (fun x y z => ⟨x, y, z, c9 x y z⟩) (fun a j w => fo a j (by omega)) (fun h1 x y z => ?_) F.2.2 F.1 F.2.1
      refine (mc h1 x y z).at (fun v9 S9 M9 p => ?_)
      rw [e430] at p
      rw [if_pos ⟨q, z0⟩]
      rcases p with ⟨q0, ⟨p1, p2, p3⟩ | ⟨p1, p2, p3⟩ | ⟨p1, p2, p3⟩⟩
      · exact ⟨p2, q0, p3.trans (by rw [e430])⟩
      · exact absurd p1.2 z0
      · exact absurd q p1
  · have F := fin f (fun _ _ _ => rfl)
    refine OpR.mk (f := f) (g := f) h (fun x y z => ⟨x, y, z, c9 x y z⟩) (fun a j w => fo a j (by omega)) (fun h1 x y z => ?_) F.2.2 F.1 F.2.1
    refine (mc h1 x y z).at (fun v9 S9 M9 p => ?_)
    rw [e430] at p
    rw [if_neg (fun w => q w.1), if_neg (fun w => q w.1)]
    rcases p with ⟨q0, ⟨p1, p2, p3⟩ | ⟨p1, p2, p3⟩ | ⟨p1, p2, p3⟩⟩
    · exact absurd p1.1 q
    · exact absurd p1.1 q
    · exact ⟨p2, q0, p3⟩
