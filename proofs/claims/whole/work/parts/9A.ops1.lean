/-- all that holds between two calls -/
def INV (M : Me) : Prop := rlR M M ∧ DI M 430 ∧ DI M 431
/-- the class's answer to a call is the reference's, and all holds behind it -/
def OpR (kc kr : MI) (Dc Dr : Nat) (args : List AV) (M : Me) : Prop := ∀ x y z : Int, ∃ (v : Option AV) (x' y' z' : Int) (M1 M2 : Me), Con kc Dc 0 0 ((1, 0) :: args) (Sf x y z) M (Ex v (Sf x' y' z') M1) ∧ Con kr Dr 0 0 ((1, 429) :: args) (Sf x' y' z') M1 (Ex v (Sf x' y' z') M2) ∧ INV M2
theorem OpR.mk {kc kr : MI} {Dc Dr : Nat} {args : List AV} {M f g : Me} {v : Option AV} (h : INV M) (hc : ∀ x y z : Int, ∃ x' y' z' : Int, Con kc Dc 0 0 ((1, 0) :: args) (Sf x y z) M (Ex v (Sf x' y' z') f)) (hf : ∀ a j : Int, 429 ≤ a → f a j = M a j) (hr : rlR M f → ∀ x y z : Int, Con kr Dr 0 0 ((1, 429) :: args) (Sf x y z) f (Ex v (Sf x y z) g)) (hg : rlR M f → ∀ a j : Int, a < 429 → g a j = f a j) (hR : rlR M f → rlR f g) (hD : rlR M f → DI f 430 → DI f 431 → DI g 430 ∧ DI g 431) : OpR kc kr Dc Dr args M := by
  have h1 : rlR M f := h.1.a (fun a j q _ => hf a j q)
  have e : ∀ r : Int, 429 ≤ r → DI M r → DI f r := fun r hr d => by
    have q : f r = M r := funext fun j => hf r j hr
    unfold DI
    rw [q]; exact d
  have d := hD h1 (e 430 (by decide) h.2.1) (e 431 (by decide) h.2.2)
  intro x y z
  obtain ⟨x', y', z', hc⟩ := hc x y z
  exact ⟨v, x', y', z', f, g, hc, hr h1 x' y' z', (hR h1).one (hg h1) (fun _ _ _ => rfl), d.1, d.2⟩
/-- of a post by cases, the case that holds -/
theorem Con.at {k : MI} {dd c1 c2 : Nat} {av : List AV} {S : Sh} {M N : Me} {v : Option AV} {Q : Option AV → Sh → Me → Prop} (h : Con k dd c1 c2 av S M Q) (q : ∀ v9 S9 M9, Q v9 S9 M9 → v9 = v ∧ S9 = S ∧ M9 = N) : Con k dd c1 c2 av S M (Ex v S N) := h.mono q
theorem DI.row {A A' : Me} {r : Int} (h : DI A r) (e : ∀ j : Int, A' r j = A r j) : DI A' r := by
  have q : A' r = A r := funext e
  unfold DI
  rw [q]; exact h
/-- HEAT -/
theorem op_heat {M : Me} (h : INV M) {g : Int} : OpR kX10_heat kX11_heat 1 1 [(0, g)] M := by
  refine OpR.mk (f := thM M g) (g := if 0 ≤ g ∧ g ≤ 9 then up (thM M g) 430 13 g else thM M g) (v := some (0, thV g)) h (fun x y z => ⟨x, y, z, f_heat⟩) (fun a j q => ?_) (fun h1 x y z => ?_) (fun _ a j q => ?_) (fun h1 => ?_) (fun h1 d0 d1 => ?_)
  · unfold thM
    split
    · exact up_ne (by omega)
    · rfl
  · refine m_heat.at (fun v9 S9 M9 q => ?_)
    rcases q with ⟨q0, ⟨q1, q2, q3⟩ | ⟨q1, q2, q3⟩⟩
    · exact ⟨q2.trans (by unfold thV; rw [if_pos q1]), q0, q3.trans (if_pos q1).symm⟩
    · exact ⟨q2.trans (by unfold thV; rw [if_neg q1]), q0, q3.trans (if_neg q1).symm⟩
  · split
    · exact up_ne (by omega)
    · rfl
  · unfold thM at h1 ⊢
    split
    · rename_i q
      rw [if_pos q] at h1
      exact rl_heat h1 q
    · rename_i q
      rw [if_neg q] at h1
      exact h1
  · split
    · exact ⟨d0.of (wa_3 h1.hy.1).2 (wa_14 h1.hy.1).2 (fun j q => up_ne (by omega)), d1.row (fun j => up_ne (by omega))⟩
    · exact ⟨d0, d1⟩
/-- BY -/
theorem op_by {M : Me} (h : INV M) {t : Int} : OpR kX10_by kX11_by 0 1 [(0, t)] M := by
  have w1 := wa_1 h.1.hy.1
  have s := h.1.sc.1.2.1
  have f1 : byM M t 430 1 = M 430 1 := by
    unfold byM
    split
    · exact up_ne (by omega)
    · rfl
  refine OpR.mk (f := byM M t) (g := if -1 ≤ t ∧ t < M 430 1 then up (byM M t) 430 2 t else byM M t) (v := some (0, byV M t)) h (fun x y z => ⟨x, y, z, f_by⟩) (fun a j q => ?_) (fun h1 x y z => ?_) (fun _ a j q => ?_) (fun h1 => ?_) (fun h1 d0 d1 => ?_)
  · unfold byM
    split
    · exact up_ne (by omega)
    · rfl
  · refine (m_by (by rw [f1]; exact w1)).at (fun v9 S9 M9 q => ?_)
    rw [f1] at q
    rcases q with ⟨q0, ⟨q1, q2, q3⟩ | ⟨q1, q2, q3⟩⟩
    · exact ⟨q2.trans (by unfold byV; rw [if_pos (by omega)]), q0, q3.trans (if_pos (by omega)).symm⟩
    · exact ⟨q2.trans (by unfold byV; rw [if_neg (by omega)]), q0, q3.trans (if_neg (by omega)).symm⟩
  · split
    · exact up_ne (by omega)
    · rfl
  · unfold byM at h1 ⊢
    rw [s] at h1 ⊢
    split
    · rename_i q
      rw [if_pos q] at h1
      refine rl_by h1 ?_
      rw [up_ne (by omega)]; exact q
    · rename_i q
      rw [if_neg q] at h1
      exact h1
  · split
    · exact ⟨d0.of (wa_3 h1.hy.1).2 (wa_14 h1.hy.1).2 (fun j q => up_ne (by omega)), d1.row (fun j => up_ne (by omega))⟩
    · exact ⟨d0, d1⟩
/-- a call that changes nothing -/
theorem OpR.rd {kc kr : MI} {Dc Dr : Nat} {args : List AV} {M : Me} {v : Option AV} (h : INV M) (hc : ∀ x y z : Int, Con kc Dc 0 0 ((1, 0) :: args) (Sf x y z) M (Ex v (Sf x y z) M)) (hr : ∀ x y z : Int, Con kr Dr 0 0 ((1, 429) :: args) (Sf x y z) M (Ex v (Sf x y z) M)) : OpR kc kr Dc Dr args M := fun x y z => ⟨v, x, y, z, M, M, hc x y z, hr x y z, h⟩
theorem op_is {M : Me} (h : INV M) {u : Int} : OpR kX10_is kX11_is 0 0 [(0, u)] M := by
  have s := h.1.sc
  refine OpR.rd (v := some (0, fiV M u)) h (fun x y z => f_is) (fun x y z => m_is.at (fun v9 S9 M9 q => ?_))
  unfold fiV
  rw [s.2.1.1, s.1.1, s.2.1.2.1, s.2.1.2.2.2.1]
  rcases q with ⟨q0, ⟨q1, q2, q3⟩ | ⟨q1, q2, q3⟩ | ⟨q1, q2, q3⟩ | ⟨q1, q2, q3⟩ | ⟨q1, q2, q3⟩⟩
  · exact ⟨q2.trans (by rw [if_pos q1]), q0, q3⟩
  · exact ⟨q2.trans (by rw [if_neg (by omega), if_pos q1]), q0, q3⟩
  · exact ⟨q2.trans (by rw [if_neg (by omega), if_neg (by omega), if_pos q1]), q0, q3⟩
  · exact ⟨q2.trans (by rw [if_neg (by omega), if_neg (by omega), if_neg (by omega), if_pos q1]), q0, q3⟩
  · exact ⟨q2.trans (by rw [if_neg (by omega), if_neg (by omega), if_neg (by omega), if_neg (by omega)]), q0, q3⟩
theorem op_book {M : Me} (h : INV M) {i u : Int} : OpR kX10_book kX11_book 1 1 [(0, i), (0, u)] M := by
  refine OpR.rd (v := some (0, fbV M i u)) h (fun x y z => f_book h.1.ci) (fun x y z => (m_book (wa_12 h.1.hy.1) (fun i g0 g1 => by have := wk_0 h.1.hy.1 (c := i) ⟨g0, g1⟩; omega)).at (fun v9 S9 M9 q => ?_))
  rw [v_bo h.1]
  unfold oBoV
  rcases q with ⟨q0, ⟨q1, q2, q3⟩ | ⟨q1, q2, q3⟩ | ⟨q1, q2, q3⟩⟩
  · exact ⟨q2.trans (by rw [if_pos q1]), q0, q3⟩
  · exact ⟨q2.trans (by rw [if_neg q1.1, if_pos q1.2]), q0, q3⟩
  · exact ⟨q2.trans (by rw [if_neg q1.1, if_neg q1.2]), q0, q3⟩
theorem op_fault {M : Me} (h : INV M) {u : Int} : OpR kX10_fault kX11_fault 0 0 [(0, u)] M := by
  have d := h.1.2.2.2.1
  refine OpR.rd (v := some (0, faV M u)) h (fun x y z => f_fault) (fun x y z => m_fault.at (fun v9 S9 M9 q => ?_))
  unfold faV
  rw [d.2.1, d.2.2.1]
  rcases q with ⟨q0, ⟨q1, q2, q3⟩ | ⟨q1, q2, q3⟩ | ⟨q1, q2, q3⟩⟩
  · exact ⟨q2.trans (by rw [if_pos q1]), q0, q3⟩
  · exact ⟨q2.trans (by rw [if_neg (by omega), if_pos q1]), q0, q3⟩
  · exact ⟨q2.trans (by rw [if_neg q1.1, if_neg q1.2]), q0, q3⟩
theorem op_of {M : Me} (h : INV M) {p u : Int} : OpR kX10_of kX11_of 3 4 [(0, p), (0, u)] M := by
  obtain ⟨hn, hn12⟩ := h.1.hy.n
  have c3 : M 50 3 = (nC M : Int) := h.1.sc.2.1.2.2.2.1.trans hn
  refine OpR.rd (v := some (0, oOfV M (nC M) p u)) h (fun x y z => ?_) (fun x y z => m_of h.1.hy hn hn12)
  have := f_of (x := x) (y := y) (z := z) h.1.ci (p := p) (u := u) c3 hn12
  rwa [v_of h.1 hn] at this
