theorem op_press {M : Me} (h : INV M) {c : Int} : OpR kX10_press kX11_press 7 8 [(0, c)] M := by
  obtain ⟨hn, hn12⟩ := h.1.hy.n
  have c3 : M 50 3 = (nC M : Int) := h.1.sc.2.1.2.2.2.1.trans hn
  generalize hN : nC M = n at hn hn12 c3
  have fr : ∀ a j : Int, 429 ≤ a → psC M n c a j = M a j := fun a j q => by
    unfold psC
    split
    · exact (poM_o (by omega)).trans (keC_o (by omega))
    · rfl
  have hnf : psC M n c 430 14 = (n : Int) := (fr 430 14 (by decide)).trans hn
  refine OpR.mk (f := psC M n c) (g := prsM (psC M n c) n c) (v := some (0, fpV M n c)) h (fun x y z => ⟨x, y, z, f_press h.1.ci c3 hn12⟩) fr (fun h1 x y z => ?_) (fun h1 a j q => ?_) (fun h1 => ?_) (fun h1 d0 d1 => ?_)
  · have m := m_press (x := x) (y := y) (z := z) h1.hy hnf hn12 (c := c)
    have e : prsV (psC M n c) n c = fpV M n c := by
      have s := h1.sc.2.1.2.2.2.1
      by_cases q : (0 ≤ c ∧ c < M 50 3) ∧ M 52 c = 0
      · have k := h1.cr (c := c) q.1.1 (by omega)
        have h2 := rl_po (rl_ke h1) (n := n) (c := c) ((kpA_o (wa_3 h1.hy.1) (by omega)).trans hnf) (by rw [kpA_o (wa_3 h1.hy.1) (by omega)]; omega)
        have e14 : pnM (kpA (psC M n c)) n c 430 14 = (n : Int) := ((pnM_o (hy_kp h1.hy) hn12 (n := n) (by omega)).2 430 14 (by omega) (by omega)).trans ((kpA_o (wa_3 h1.hy.1) (by omega)).trans hnf)
        have k2 := (h2.cr (c := c) q.1.1 (by omega)).2.2.2.2.2.2.2
        have v1 : psV M c = 1 := if_pos q
        have l : prsV (psC M n c) n c = pnM (kpA (psC M n c)) n c 430 (15 + 7 * c + 0) := if_pos ⟨by omega, k.2.2.2.2.2.2.1.symm.trans q.2⟩
        have r : fpV M n c = psC M n c 53 c := if_neg (by rw [v1]; decide)
        refine l.trans (k2.symm.trans (Eq.trans ?_ r.symm))
        rw [show psC M n c = poM (keC M) n c from if_pos q]
      · have v0 : psV M c = 0 := if_neg q
        exact (show prsV (psC M n c) n c = -1 from if_neg (fun w => q ⟨by omega, (h1.cr (c := c) w.1.1 (by omega)).2.2.2.2.2.2.1.trans w.2⟩)).trans (show fpV M n c = -1 from if_pos v0).symm
    rw [e] at m
    exact m
  · unfold prsM
    split
    · rename_i w
      exact ((pnM_o (hy_kp h1.hy) hn12 (n := n) (c := c) (by omega)).2 a j (by omega) (by omega)).trans (kpA_o (wa_3 h1.hy.1) (by omega))
    · rfl
  · have s := h1.sc.2.1.2.2.2.1
    have goal : ∀ f : Me, rlR M f → f 430 14 = (n : Int) → rlR (psC M n c) (prsM f n c) := fun f hf nf => by
      have s := hf.sc.2.1.2.2.2.1
      unfold psC prsM
      by_cases q : (0 ≤ c ∧ c < M 50 3) ∧ M 52 c = 0
      · have k := hf.cr (c := c) q.1.1 (by omega)
        rw [if_pos q, if_pos ⟨by omega, k.2.2.2.2.2.2.1.symm.trans q.2⟩]
        exact rl_po (rl_ke hf) ((kpA_o (wa_3 hf.hy.1) (by omega)).trans nf) (by rw [kpA_o (wa_3 hf.hy.1) (by omega)]; omega)
      · rw [if_neg q, if_neg (fun w => q ⟨by omega, (hf.cr (c := c) w.1.1 (by omega)).2.2.2.2.2.2.1.trans w.2⟩)]
        exact hf
    exact goal _ h1 hnf
  · unfold prsM
    split
    · rename_i w
      have o := (pnM_o (hy_kp h1.hy) hn12 (n := n) (c := c) (by omega)).2
      refine ⟨di_pn (di_kp d0 h1.hy.1) (hy_kp h1.hy) ((kpA_o (wa_3 h1.hy.1) (by omega)).trans hnf) (by rw [kpA_o (wa_3 h1.hy.1) (by omega)]; exact w.1), d1.row (fun j => (o 431 j (by omega) (by omega)).trans (kpA_o (wa_3 h1.hy.1) (by omega)))⟩
    · exact ⟨d0, d1⟩
theorem op_ofCrease {M : Me} (h : INV M) {c u : Int} : OpR kX10_ofCrease kX11_ofCrease 5 5 [(0, c), (0, u)] M := by
  obtain ⟨hn, hn12⟩ := h.1.hy.n
  have c3 : M 50 3 = (nC M : Int) := h.1.sc.2.1.2.2.2.1.trans hn
  generalize hN : nC M = n at hn hn12 c3
  have fo : ∀ a j : Int, ¬ (a = 48 ∧ 0 ≤ j ∧ j < 64) ∧ ¬ (a = 47 ∧ j = 1) → fcM M c u a j = M a j := fun a j q => by
    unfold fcM
    (repeat' split) <;> first | rfl | exact blM_o q
  have hnf : fcM M c u 430 14 = (n : Int) := (fo 430 14 (by omega)).trans hn
  have go : ∀ (f : Me) (a j : Int), ¬ (435 ≤ a ∧ a ≤ 437) → oOcM f n c u a j = f a j := fun f a j q => by
    unfold oOcM
    (repeat' split) <;> first | rfl | exact lxM_o q
  refine OpR.mk (f := fcM M c u) (g := oOcM (fcM M c u) n c u) (v := some (0, fcV M c u)) h (fun x y z => ⟨x, y, z, f_ofCrease h.1.ci⟩) (fun a j q => fo a j (by omega)) (fun h1 x y z => ?_) (fun h1 a j q => go _ a j (by omega)) (fun h1 => ?_) (fun h1 d0 d1 => ⟨d0.row (fun j => go _ 430 j (by omega)), d1.row (fun j => go _ 431 j (by omega))⟩)
  · rw [v_oc h1 hnf]
    exact m_ofCrease h1.hy hnf hn12
  · have h2 : rlR (fcM M c u) (fcM M c u) := h1.c (fun a j q => fo a j (by unfold scrC at q; omega)) (fun j g0 g1 => by rw [fo 10 j (by omega)]; exact h1.2.2.2.2.1.2 j g0 g1)
    exact h2.a (fun a j q0 q1 => go _ a j (by omega))
theorem op_whose {M : Me} (h : INV M) : OpR kX10_whose kX11_whose 6 5 [] M := by
  obtain ⟨hn, hn12⟩ := h.1.hy.n
  have c3 : M 50 3 = (nC M : Int) := h.1.sc.2.1.2.2.2.1.trans hn
  generalize hN : nC M = n at hn hn12 c3
  have w9 := wa_9 h.1.hy.1
  have w1 := wa_1 h.1.hy.1
  obtain ⟨-, -, -, -, -, ⟨a5, b5⟩, -⟩ := h.1.1.2.2.2.2.2.o
  obtain ⟨m, hm⟩ := Int.eq_ofNat_of_zero_le w9.1
  have hm : M 430 9 = (m : Int) := hm
  obtain ⟨N, hN1⟩ := Int.eq_ofNat_of_zero_le w1.1
  have hN1 : M 430 1 = (N : Int) := hN1
  have fo : ∀ a j : Int, ¬ (a = 48 ∧ 0 ≤ j ∧ j < 64) ∧ ¬ (a = 47 ∧ j = 1) → (whU M m N).2 a j = M a j := fun a j q => whU_o N q
  refine OpR.mk (f := (whU M m N).2) (g := (woU (whU M m N).2 n m N).2) (v := some (0, (whU M m N).1)) h (fun x y z => ⟨x, y, z, f_whose h.1.ci (a5.trans hm) (by omega) (fun k hk => ?_) (h.1.sc.1.2.1.trans hN1) (by omega)⟩) (fun a j q => fo a j (by omega)) (fun h1 x y z => ?_) (fun h1 a j q => (woU_o h1.hy N).2 a j (by omega)) (fun h1 => ?_) (fun h1 d0 d1 => ⟨d0.row (fun j => (woU_o h1.hy N).2 430 j (by omega)), d1.row (fun j => (woU_o h1.hy N).2 431 j (by omega))⟩)
  · have b := b5 k (by omega) (by omega)
    have d := wd_0 h.1.hy.1 (c := (k : Int)) (by omega)
    rw [Int.add_zero] at d
    rw [b.1.1, h.1.sc.2.1.2.2.2.1]
    exact ⟨d.1, b.1.2⟩
  · have f14 : (whU M m N).2 430 14 = (n : Int) := (fo _ _ (by omega)).trans hn
    have f9 : (whU M m N).2 430 9 = (m : Int) := (fo _ _ (by omega)).trans hm
    have f1 : (whU M m N).2 430 1 = (N : Int) := (fo _ _ (by omega)).trans hN1
    rw [(rl_wh h1 f14 f9 N (by omega)).2]
    exact m_whose h1.hy f14 hn12 f9 (by omega) f1 (by omega)
  · have h2 : rlR (whU M m N).2 (whU M m N).2 := h1.c (fun a j q => fo a j (by unfold scrC at q; omega)) (fun j g0 g1 => by rw [fo 10 j (by omega)]; exact h1.2.2.2.2.1.2 j g0 g1)
    exact h2.a (fun a j q0 q1 => (woU_o h1.hy N).2 a j (by omega))
theorem op_seasons {M : Me} (h : INV M) {u k : Int} : OpR kX10_seasons kX11_seasons 8 10 [(0, u), (0, k)] M := by
  obtain ⟨hn, hn12⟩ := h.1.hy.n
  have c3 : M 50 3 = (nC M : Int) := h.1.sc.2.1.2.2.2.1.trans hn
  generalize hN : nC M = n at hn hn12 c3
  by_cases q : (0 ≤ u ∧ u ≤ 9999) ∧ (1 ≤ k ∧ k ≤ 40)
  · have ef : fsM M n u k = seS (sePre M u) n k.toNat := if_neg (by omega)
    have ev : fsV M n u k = seS (sePre M u) n k.toNat 50 0 := if_neg (by omega)
    have w := seS_w (h.1.ci.se q.1) (n := n) (show sePre M u 50 3 = (n : Int) from (up_ne (by omega)).trans ((keC_o (by omega)).trans c3)) k.toNat
    have fr : ∀ a j : Int, 429 ≤ a → seS (sePre M u) n k.toNat a j = M a j := fun a j z => (w.2 a j (by omega)).trans ((up_ne (by omega)).trans (keC_o (by omega)))
    have pre : ∀ f : Me, rlR M f → rlR (sePre M u) (seA f u) := fun f hf => by
      have h2 := rl_ke hf
      refine h2.now (fun a j _ q => up_ne (by omega)) (fun j => up_ne (by omega)) (fun a j _ _ q => up_ne (by unfold nowA at q; omega)) (wu_11 h2.hy.1 (by omega)) ?_
      obtain ⟨⟨b1, b2, b3, b4, b5⟩, b6, b7, b8⟩ := h2.1.2.1.o
      have w0 := wa_0 h2.hy.1
      have w14 := wa_14 h2.hy.1
      unfold sePre seA
      refine rlN.mk (by rw [up_ne (by omega), up_ne (by omega)]; exact b1) ((up_eq ⟨rfl, rfl⟩).trans (up_eq ⟨rfl, rfl⟩).symm) (by rw [up_ne (by omega), up_ne (by omega)]; exact b3) (by rw [up_ne (by omega), up_ne (by omega)]; exact b4) (by rw [up_ne (by omega), up_ne (by omega)]; exact b5) (fun e g0 g1 => ?_) (fun e g0 g1 => ?_) (fun i g0 g1 => ?_)
      · rw [up_ne (by omega)] at g1
        rw [up_ne (by omega), up_ne (by omega)]; exact b6 e g0 g1
      · rw [up_ne (by omega)] at g1
        rw [up_ne (by omega), up_ne (by omega), up_ne (by omega), up_ne (by omega)]; exact b7 e g0 g1
      · rw [up_ne (by omega), up_ne (by omega)]; exact b8 i g0 g1
    have s14 : ∀ f : Me, rlR M f → f 430 14 = (n : Int) → seA f u 430 14 = (n : Int) := fun f hf e => (up_ne (by omega)).trans ((kpA_o (wa_3 hf.hy.1) (by omega)).trans e)
    have f14 : seS (sePre M u) n k.toNat 430 14 = (n : Int) := (fr 430 14 (by decide)).trans hn
    generalize hf : seS (sePre M u) n k.toNat = f at ef ev fr f14
    have go : rlR M f → ∀ a j : Int, ¬ (435 ≤ a ∧ a ≤ 437) → a ≠ 430 → ssS (seA f u) n k.toNat a j = f a j := fun h1 a j z0 z => ((ssS_o (hy_se h1.hy q.1) hn12 k.toNat).2 a j z0 (by omega)).trans ((up_ne (by omega)).trans (kpA_o (wa_3 h1.hy.1) (by omega)))
    refine OpR.mk (f := f) (g := ssS (seA f u) n k.toNat) (v := some (0, f 50 0)) h (fun x y z => ⟨x, y, z, ?_⟩) fr (fun h1 x y z => ?_) (fun h1 a j z => go h1 a j (by omega) (by omega)) (fun h1 => ?_) (fun h1 d0 d1 => ?_)
    · have c9 := f_seasons (x := x) (y := y) (z := z) h.1.ci (u := u) (k := k) c3 hn12
      rwa [ef, ev] at c9
    · have m := m_seasons (x := x) (y := y) (z := z) h1.hy f14 hn12 (u := u) (k := k)
      have h2 := (rl_se (pre f h1) (s14 f h1 f14) k.toNat).1
      rw [hf] at h2
      rw [show oSeV f n u k = ssS (seA f u) n k.toNat 430 10 from if_pos q, show oSeM f n u k = ssS (seA f u) n k.toNat from if_pos q, ← h2.sc.2.1.1] at m
      exact m
    · have h2 := (rl_se (pre f h1) (s14 f h1 f14) k.toNat).1
      rwa [hf] at h2
    · have dk : DI (seA f u) 430 := (di_kp d0 h1.hy.1).of (wa_3 (wa_kp h1.hy.1)).2 (wa_14 (wa_kp h1.hy.1)).2 (fun j q => up_ne (by omega))
      exact ⟨di_ss dk (hy_se h1.hy q.1) (s14 f h1 f14) k.toNat, d1.row (fun j => go h1 431 j (by omega) (by omega))⟩
  · refine OpR.rd (v := some (0, -1)) h (fun x y z => ?_) (fun x y z => ?_)
    · have c9 := f_seasons (x := x) (y := y) (z := z) h.1.ci (u := u) (k := k) c3 hn12
      rwa [show fsV M n u k = -1 from if_pos (by omega), show fsM M n u k = M from if_pos (by omega)] at c9
    · have m := m_seasons (x := x) (y := y) (z := z) h.1.hy hn hn12 (u := u) (k := k)
      rwa [show oSeV M n u k = -1 from if_neg q, show oSeM M n u k = M from if_neg q] at m
