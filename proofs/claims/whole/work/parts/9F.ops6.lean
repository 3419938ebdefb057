theorem c_takeBack0 {x y z : Int} {M : Me} (h0 : M 55 0 ≤ 0) : Con kX6_takeBack 2 0 0 [(1, 49)] (Sf x y z) M (Ex (some (0, -1)) (Sf x y z) M) := by
  refine Con.ofV (al := [(1, 49), (9, 0), (9, 0), (9, 0), (9, 0)]) 4 (by decide) (Nat.le_of_ble_eq_true rfl) rfl ?_
  refine r_aload_n dX6_takeBack_0 rfl (by decide) ?_
  refine r_getr (x := 55) dX6_takeBack_1 flX6_28 sf49 (by decide) (by decide) rfl rfl ?_
  refine r_gi 0 dX6_takeBack_4 flX6_191 sf55 (by decide) (by decide) rfl rfl (by first | assumption | ((repeat (first | (apply rd_ne; · omega) | (apply rd_eq; · omega) | (apply rd_out; · omega) | (apply rd_in; · omega))); first | assumption | rfl)) ?_
  refine r_if_gt (tgt := 12) dX6_takeBack_7 (by decide) (fun h7 => by exfalso; omega) (fun h7 => ?_)
  refine r_iconst dX6_takeBack_10 (by decide) ?_
  refine r_iret dX6_takeBack_11 rfl ?_
  exact ⟨rfl, rfl, rfl⟩
theorem f_undo0 {x y z : Int} {M : Me} (h0 : M 55 0 ≤ 0) : Con kX10_undo 3 0 0 [(1, 0)] (Sf x y z) M (Ex (some (0, -1)) (Sf x y z) M) := by
  refine Con.ofV (al := [(1, 0)]) 0 (by decide) (Nat.le_of_ble_eq_true rfl) rfl ?_
  refine r_aload_n dX10_undo_0 rfl (by decide) ?_
  refine r_getr (x := 49) dX10_undo_1 flX10_52 sf0 (by decide) (by decide) rfl rfl ?_
  refine r_cv0 dX10_undo_4 clX10_143 sf49 (by decide) (by decide) rfl (by first | decide | omega) (Nat.le_of_ble_eq_true rfl) ((c_takeBack0 h0)) ⟨Nat.zero_le _, Nat.zero_le _⟩ (fun _ => ?_)
  refine r_iret dX10_undo_7 rfl ?_
  exact ⟨rfl, rfl, rfl⟩
theorem op_undo {M : Me} (h : INV M) : OpR kX10_undo kX11_undo 3 1 [] M := by
  obtain ⟨hn, hn12⟩ := h.1.hy.n
  have c3 : M 50 3 = (nC M : Int) := h.1.sc.2.1.2.2.2.1.trans hn
  generalize hN : nC M = n at hn hn12 c3
  have s := h.1.sc
  have w0 := wa_0 h.1.hy.1
  have w14 := wa_14 h.1.hy.1
  have w3 := wa_3 h.1.hy.1
  obtain ⟨np, hp⟩ := Int.eq_ofNat_of_zero_le w0.1
  have hp : M 430 0 = (np : Int) := hp
  by_cases q : M 430 3 = 0
  · refine OpR.rd (v := some (0, -1)) h (fun x y z => ?_) (fun x y z => (m_undo w3 hn hn12 hp (by omega)).at (fun v9 S9 M9 p => ?_))
    · exact f_undo0 (by omega)
    · rcases p with ⟨q0, ⟨p1, p2, p3⟩ | ⟨p1, p2, p3⟩⟩
      · exact ⟨p2, q0, p3⟩
      · exact absurd q p1
  · have uq := rl_uq h.1 q
    have ev : ∀ f : Me, rlR M f → f 430 14 = (n : Int) → f 430 0 = (np : Int) → f 430 3 ≠ 0 → rlR (ubM M) (unA (up f 430 3 (f 430 3 - 1)) (192 + 64 * (f 430 3 - 1)) n np) := fun f h1 e e2 e3 => rl_un h1 e e2 e3
    have hqb := kp_sb (M := M) (i := M 55 0 - 1)
    have fr : ∀ a j : Int, 429 ≤ a → ubM M a j = M a j := fun a j z => by
      rw [show ubM M = up (up (ub3 M) 50 2 (M 50 2)) 50 3 (M 50 3) from if_neg (by omega)]
      exact (up_ne (by omega)).trans ((up_ne (by omega)).trans ((tk2_o (by omega)).trans ((tk1_o (by omega)).trans ((mcp_o (by omega)).trans (up_ne (by omega))))))
    have c9 : ∀ x y z : Int, Con kX10_undo 3 0 0 [(1, 0)] (Sf x y z) M (Ex (some (0, M 430 3 - 1)) (Sf x y z) (ubM M)) := fun x y z => by
      have k9 := f_undo (x := x) (y := y) (z := z) h.1.ci uq
      rwa [show ubV M = M 430 3 - 1 from (if_neg (by omega)).trans (by rw [s.2.2])] at k9
    generalize hf : ubM M = f at fr ev c9
    have f3 := fr 430 3 (by decide)
    have f14 := (fr 430 14 (by decide)).trans hn
    have f0 := (fr 430 0 (by decide)).trans hp
    have go : ∀ a j : Int, a ≠ 430 → unA (up f 430 3 (f 430 3 - 1)) (192 + 64 * (f 430 3 - 1)) n np a j = f a j := fun a j z => (una_o (by omega)).trans (up_ne (by omega))
    refine OpR.mk (f := f) (g := unA (up f 430 3 (f 430 3 - 1)) (192 + 64 * (f 430 3 - 1)) n np) (v := some (0, M 430 3 - 1)) h (fun x y z => ⟨x, y, z, c9 x y z⟩) fr (fun h1 x y z => ?_) (fun h1 a j z => go a j (by omega)) (fun h1 => ev f h1 f14 f0 (by omega)) (fun h1 d0 d1 => ⟨di_un d0 h1.hy.1 f14 f0 (by omega), d1.row (fun j => go 431 j (by decide))⟩)
    refine (m_undo (wa_3 h1.hy.1) f14 hn12 f0 (by omega)).at (fun v9 S9 M9 p => ?_)
    rcases p with ⟨q0, ⟨p1, p2, p3⟩ | ⟨p1, p2, p3⟩⟩
    · exact absurd p1 (by omega)
    · exact ⟨p2.trans (by rw [f3]), q0, p3⟩
theorem op_person {M : Me} (h : INV M) {t c : Int} : OpR kX10_person kX11_person 1 1 [(0, t), (0, c)] M := by
  obtain ⟨hn, hn12⟩ := h.1.hy.n
  have c3 : M 50 3 = (nC M : Int) := h.1.sc.2.1.2.2.2.1.trans hn
  generalize hN : nC M = n at hn hn12 c3
  have s := h.1.sc
  have w0 := wa_0 h.1.hy.1
  have w14 := wa_14 h.1.hy.1
  by_cases q : tpO M t c
  · have ev : ∀ f : Me, rlR M f → f 430 0 = M 50 2 → rlR (tpM M t c) (up (up (up (up f 430 (99 + 3 * f 430 0) c) 430 (99 + 3 * f 430 0 + 1) t) 430 (99 + 3 * f 430 0 + 2) c) 430 0 (f 430 0 + 1)) := fun f h1 e => by
      rw [show tpM M t c = up (up (up (up M 207 (M 50 2) t) 208 (M 50 2) c) 51 (M 50 2) c) 50 2 (M 50 2 + 1) from if_pos q, e]
      exact rl_pe h1 e (by omega) ⟨q.1, q.2.1⟩ ⟨q.2.2.1, q.2.2.2.1⟩
    have fr : ∀ a j : Int, 429 ≤ a → tpM M t c a j = M a j := fun a j z => by
      rw [show tpM M t c = _ from if_pos q]; exact (up_ne (by omega)).trans ((up_ne (by omega)).trans ((up_ne (by omega)).trans (up_ne (by omega))))
    have c9 : ∀ x y z : Int, Con kX10_person 1 0 0 [(1, 0), (0, t), (0, c)] (Sf x y z) M (Ex (some (0, M 50 2)) (Sf x y z) (tpM M t c)) := fun x y z => by
      have k9 := f_person (x := x) (y := y) (z := z) h.1.ci (s := t) (c := c)
      rwa [show tpV M t c = M 50 2 from if_pos q] at k9
    generalize hf : tpM M t c = f at fr ev c9
    have f0 := fr 430 0 (by decide)
    have go : ∀ a j : Int, a ≠ 430 → (up (up (up (up f 430 (99 + 3 * f 430 0) c) 430 (99 + 3 * f 430 0 + 1) t) 430 (99 + 3 * f 430 0 + 2) c) 430 0 (f 430 0 + 1)) a j = f a j := fun a j z => (up_ne (by omega)).trans ((up_ne (by omega)).trans ((up_ne (by omega)).trans (up_ne (by omega))))
    refine OpR.mk (f := f) (g := up (up (up (up f 430 (99 + 3 * f 430 0) c) 430 (99 + 3 * f 430 0 + 1) t) 430 (99 + 3 * f 430 0 + 2) c) 430 0 (f 430 0 + 1)) (v := some (0, M 50 2)) h (fun x y z => ⟨x, y, z, c9 x y z⟩) fr (fun h1 x y z => ?_) (fun h1 a j z => go a j (by omega)) (fun h1 => ev f h1 (by omega)) (fun h1 d0 d1 => ⟨d0.of (wa_3 h1.hy.1).2 (wa_14 h1.hy.1).2 (fun j q => (up_ne (by omega)).trans ((up_ne (by omega)).trans ((up_ne (by omega)).trans (up_ne (by omega))))), d1.row (fun j => go 431 j (by decide))⟩)
    have m := m_oPe (x := x) (y := y) (z := z) (M := f) (s := t) (c := c) (by rw [f0]; exact w0)
    rwa [show oPeV f t c = M 50 2 from (if_pos (by unfold tpO at q; omega)).trans (by omega), show oPeM f t c = _ from if_pos (by unfold tpO at q; omega)] at m
  · refine OpR.rd (v := some (0, -1)) h (fun x y z => ?_) (fun x y z => ?_)
    · have k9 := f_person (x := x) (y := y) (z := z) h.1.ci (s := t) (c := c)
      rwa [show tpV M t c = -1 from if_neg q, show tpM M t c = M from if_neg q] at k9
    · have m := m_oPe (x := x) (y := y) (z := z) (M := M) (s := t) (c := c) w0
      rwa [show oPeV M t c = -1 from if_neg (by unfold tpO at q; omega), show oPeM M t c = M from if_neg (by unfold tpO at q; omega)] at m
theorem op_tie {M : Me} (h : INV M) {a b : Int} : OpR kX10_tie kX11_tie 2 2 [(0, a), (0, b)] M := by
  obtain ⟨hn, hn12⟩ := h.1.hy.n
  have c3 : M 50 3 = (nC M : Int) := h.1.sc.2.1.2.2.2.1.trans hn
  generalize hN : nC M = n at hn hn12 c3
  have s := h.1.sc
  have w0 := wa_0 h.1.hy.1
  have w14 := wa_14 h.1.hy.1
  by_cases q : ttP M a b
  · have ka := (h.1.cr (c := a) q.1.1 (by omega)).2.2.2.2.1
    have ev : ∀ f : Me, rlR M f → f 430 14 = (n : Int) → rlR (ttM M n a b) (up f 430 (15 + 7 * a + 6) (or32 (f 430 (15 + 7 * a + 6)) (shl32 1 b))) := fun f h1 e => by
      rw [show ttM M n a b = tiS (up M 213 a (or32 (M 213 a) (shl32 1 b))) a b n from if_pos q]
      exact rl_ti h1 e ⟨q.1.1, by omega⟩ ⟨q.2.1.1, by omega⟩
    have fr : ∀ x j : Int, 429 ≤ x → ttM M n a b x j = M x j := fun x j z => by
      rw [show ttM M n a b = tiS (up M 213 a (or32 (M 213 a) (shl32 1 b))) a b n from if_pos q]
      exact (tiS_o (by omega) n).trans (up_ne (by omega))
    have c9 : ∀ x y z : Int, Con kX10_tie 2 0 0 [(1, 0), (0, a), (0, b)] (Sf x y z) M (Ex (some (0, 1)) (Sf x y z) (ttM M n a b)) := fun x y z => by
      have k9 := f_tie (x := x) (y := y) (z := z) (a := a) (b := b) c3 hn12
      rwa [show ttV M a b = 1 from if_pos q] at k9
    have q4 : ¬ and32 (shr32 (M 430 (15 + 7 * a + 6)) b) 1 = 1 := by rw [← ka]; exact q.2.2.2
    generalize hf : ttM M n a b = f at fr ev c9
    have f14 := (fr 430 14 (by decide)).trans hn
    have f6 := fr 430 (15 + 7 * a + 6) (by decide)
    refine OpR.mk (f := f) (g := up f 430 (15 + 7 * a + 6) (or32 (f 430 (15 + 7 * a + 6)) (shl32 1 b))) (v := some (0, 1)) h (fun x y z => ⟨x, y, z, c9 x y z⟩) fr (fun h1 x y z => ?_) (fun h1 x j z => up_ne (by omega)) (fun h1 => ev f h1 f14) (fun h1 d0 d1 => ⟨d0.of (wa_3 h1.hy.1).2 (wa_14 h1.hy.1).2 (fun j w => up_ne (by omega)), d1.row (fun j => up_ne (by omega))⟩)
    have m := m_oTi (x := x) (y := y) (z := z) (M := f) (c := a) (e := b) (wa_14 h1.hy.1)
    have cd : oTiC f a b := ⟨by omega, by omega, q.2.2.1, by rw [f6]; exact q4⟩
    rwa [show oTiV f a b = 1 from if_pos cd, show oTiM f a b = _ from if_pos cd] at m
  · have cd : ¬ oTiC M a b := fun w => q ⟨⟨w.1.1, by omega⟩, ⟨w.2.1.1, by omega⟩, w.2.2.1, by rw [(h.1.cr (c := a) w.1.1 (by omega)).2.2.2.2.1]; exact w.2.2.2⟩
    refine OpR.rd (v := some (0, 0)) h (fun x y z => ?_) (fun x y z => ?_)
    · have k9 := f_tie (x := x) (y := y) (z := z) (a := a) (b := b) c3 hn12
      rwa [show ttV M a b = 0 from if_neg q, show ttM M n a b = M from if_neg q] at k9
    · have m := m_oTi (x := x) (y := y) (z := z) (M := M) (c := a) (e := b) w14
      rwa [show oTiV M a b = 0 from if_neg cd, show oTiM M a b = M from if_neg cd] at m
theorem op_crease {M : Me} (h : INV M) {p t d g : Int} : OpR kX10_crease kX11_crease 2 2 [(0, p), (0, t), (0, d), (0, g)] M := by
  obtain ⟨hn, hn12⟩ := h.1.hy.n
  have c3 : M 50 3 = (nC M : Int) := h.1.sc.2.1.2.2.2.1.trans hn
  generalize hN : nC M = n at hn hn12 c3
  have s := h.1.sc
  have w0 := wa_0 h.1.hy.1
  have w14 := wa_14 h.1.hy.1
  by_cases q : tcO M p t d g
  · have ev : ∀ f : Me, rlR M f → f 430 14 = M 50 3 → f 430 0 = M 50 2 → rlR (tcN M p t d g) (up (up (up (up (up (up (up (up f 430 (15 + 7 * f 430 14 + 2) p) 430 (15 + 7 * f 430 14 + 3) t) 430 (15 + 7 * f 430 14 + 4) d) 430 (15 + 7 * f 430 14 + 5) g) 430 (15 + 7 * f 430 14 + 6) 0) 430 (15 + 7 * f 430 14 + 0) d) 430 (15 + 7 * f 430 14 + 1) 0) 430 14 (f 430 14 + 1)) := fun f h1 e e2 => by
      rw [show tcN M p t d g = _ from if_pos q, e]
      exact rl_cr h1 e (by unfold tcO at q; omega) ⟨q.1.1, by omega⟩ ⟨q.2.1, q.2.2.1⟩ ⟨q.2.2.2.1, q.2.2.2.2.1⟩ ⟨q.2.2.2.2.2.1, q.2.2.2.2.2.2.1⟩
    have fr : ∀ a j : Int, 429 ≤ a → tcN M p t d g a j = M a j := fun a j z => by
      rw [show tcN M p t d g = _ from if_pos q]; exact (up_ne (by omega)).trans ((up_ne (by omega)).trans ((up_ne (by omega)).trans ((up_ne (by omega)).trans ((up_ne (by omega)).trans ((up_ne (by omega)).trans ((up_ne (by omega)).trans ((up_ne (by omega)).trans (up_ne (by omega)))))))))
    have c9 : ∀ x y z : Int, Con kX10_crease 2 0 0 [(1, 0), (0, p), (0, t), (0, d), (0, g)] (Sf x y z) M (Ex (some (0, M 50 3)) (Sf x y z) (tcN M p t d g)) := fun x y z => by
      have k9 := f_crease (x := x) (y := y) (z := z) h.1.ci (p := p) (t := t) (d := d) (w := g)
      rwa [show tcV M p t d g = M 50 3 from if_pos q] at k9
    generalize hf : tcN M p t d g = f at fr ev c9
    have f0 := fr 430 0 (by decide)
    have f14 := fr 430 14 (by decide)
    have go : ∀ a j : Int, a ≠ 430 → (up (up (up (up (up (up (up (up f 430 (15 + 7 * f 430 14 + 2) p) 430 (15 + 7 * f 430 14 + 3) t) 430 (15 + 7 * f 430 14 + 4) d) 430 (15 + 7 * f 430 14 + 5) g) 430 (15 + 7 * f 430 14 + 6) 0) 430 (15 + 7 * f 430 14 + 0) d) 430 (15 + 7 * f 430 14 + 1) 0) 430 14 (f 430 14 + 1)) a j = f a j := fun a j z => (up_ne (by omega)).trans ((up_ne (by omega)).trans ((up_ne (by omega)).trans ((up_ne (by omega)).trans ((up_ne (by omega)).trans ((up_ne (by omega)).trans ((up_ne (by omega)).trans (up_ne (by omega))))))))
    refine OpR.mk (f := f) (g := (up (up (up (up (up (up (up (up f 430 (15 + 7 * f 430 14 + 2) p) 430 (15 + 7 * f 430 14 + 3) t) 430 (15 + 7 * f 430 14 + 4) d) 430 (15 + 7 * f 430 14 + 5) g) 430 (15 + 7 * f 430 14 + 6) 0) 430 (15 + 7 * f 430 14 + 0) d) 430 (15 + 7 * f 430 14 + 1) 0) 430 14 (f 430 14 + 1))) (v := some (0, M 50 3)) h (fun x y z => ⟨x, y, z, c9 x y z⟩) fr (fun h1 x y z => ?_) (fun h1 a j z => go a j (by omega)) (fun h1 => ev f h1 (by omega) (by omega)) (fun h1 d0 d1 => ⟨?_, d1.row (fun j => go 431 j (by decide))⟩)
    · have m := m_oCr (x := x) (y := y) (z := z) (M := f) (p := p) (t := t) (d := d) (g := g) (wa_0 h1.hy.1) (wa_14 h1.hy.1)
      have cd : oCrC f p t d g := by unfold tcO at q; unfold oCrC; omega
      rwa [show oCrV f p t d g = M 50 3 from (if_pos cd).trans (by omega), show oCrM f p t d g = _ from if_pos cd] at m
    · have w14f := wa_14 h1.hy.1
      have w3f := wa_3 h1.hy.1
      have q14 : f 430 14 < 12 := by unfold tcO at q; omega
      generalize hA' : (up (up (up (up (up (up (up (up f 430 (15 + 7 * f 430 14 + 2) p) 430 (15 + 7 * f 430 14 + 3) t) 430 (15 + 7 * f 430 14 + 4) d) 430 (15 + 7 * f 430 14 + 5) g) 430 (15 + 7 * f 430 14 + 6) 0) 430 (15 + 7 * f 430 14 + 0) d) 430 (15 + 7 * f 430 14 + 1) 0) 430 14 (f 430 14 + 1)) = A'
      have e14 : A' 430 14 = f 430 14 + 1 := by rw [← hA']; exact up_eq ⟨rfl, rfl⟩
      have eo : ∀ j : Int, j = 3 ∨ (15 ≤ j ∧ j < 15 + 7 * f 430 14) ∨ (192 ≤ j ∧ j < 2112) → A' 430 j = f 430 j := fun j w => by rw [← hA']; simp (disch := omega) only [up_ne, up_eq]
      have en : A' 430 (15 + 7 * f 430 14 + 4) = d ∧ A' 430 (15 + 7 * f 430 14 + 0) = d := by
        rw [← hA']
        refine ⟨?_, ?_⟩ <;> simp (disch := omega) only [up_ne, up_eq]
      have st := h1.1.2.2.1.2.2
      unfold DI
      rw [e14, eo 3 (by omega)]
      intro c g0 g1
      by_cases z : c = f 430 14
      · subst z
        rw [en.1, en.2]
        refine ⟨⟨q.2.2.2.1, Int.le_refl _⟩, fun u u0 u1 => ?_⟩
        rw [eo _ (by omega)]
        intro w
        have := (st u u0 u1).2.1
        omega
      · rw [eo (15 + 7 * c + 4) (by omega), eo (15 + 7 * c + 0) (by omega)]
        refine ⟨(d0 c g0 (by omega)).1, fun u u0 u1 => ?_⟩
        rw [eo _ (by omega), eo _ (by omega)]
        exact (d0 c g0 (by omega)).2 u u0 u1
  · refine OpR.rd (v := some (0, -1)) h (fun x y z => ?_) (fun x y z => ?_)
    · have k9 := f_crease (x := x) (y := y) (z := z) h.1.ci (p := p) (t := t) (d := d) (w := g)
      rwa [show tcV M p t d g = -1 from if_neg q, show tcN M p t d g = M from if_neg q] at k9
    · have m := m_oCr (x := x) (y := y) (z := z) (M := M) (p := p) (t := t) (d := d) (g := g) w0 w14
      have cd : ¬ oCrC M p t d g := by unfold tcO at q; unfold oCrC; omega
      rwa [show oCrV M p t d g = -1 from if_neg cd, show oCrM M p t d g = M from if_neg cd] at m
