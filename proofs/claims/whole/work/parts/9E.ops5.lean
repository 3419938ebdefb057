theorem op_damp {M : Me} (h : INV M) {k : Int} : OpR kX10_damp kX11_damp 5 5 [(0, k)] M := by
  obtain ⟨hn, hn12⟩ := h.1.hy.n
  have c3 : M 50 3 = (nC M : Int) := h.1.sc.2.1.2.2.2.1.trans hn
  generalize hN : nC M = n at hn hn12 c3
  by_cases q : 1 ≤ k ∧ k ≤ 9
  · have fr : ∀ a j : Int, 429 ≤ a → (dnS (keC M) n k n).1 a j = M a j := fun a j z => ((dnS_w h.1.ci.ke (n := n) (k := k) n).2.1 a j (by omega)).trans (keC_o (by omega))
    have f14 := (fr 430 14 (by decide)).trans hn
    have ev : ∀ f : Me, rlR M f → f 430 14 = (n : Int) → rlR (dnS (keC M) n k n).1 (dmS (kpA f) n k n).1 ∧ (dnS (keC M) n k n).2 = (dmS (kpA f) n k n).2 := fun f h1 e => by
      have w := rl_dn (rl_ke h1) ((kpA_o (wa_3 h1.hy.1) (by omega)).trans e) (k := k) n (Nat.le_refl n)
      exact ⟨w.1, w.2.1⟩
    generalize hf : (dnS (keC M) n k n).1 = f at fr f14 ev
    generalize hv : (dnS (keC M) n k n).2 = v at ev
    have go : rlR M f → ∀ a j : Int, a ≠ 430 → (dmS (kpA f) n k n).1 a j = f a j := fun h1 a j z => ((dmS_w (wa_kp h1.hy.1) hn12 (k := k) n (Nat.le_refl n)).2.1 a j (by omega)).trans (kpA_o (wa_3 h1.hy.1) (by omega))
    refine OpR.mk (f := f) (g := (dmS (kpA f) n k n).1) (v := some (0, v)) h (fun x y z => ⟨x, y, z, ?_⟩) fr (fun h1 x y z => ?_) (fun h1 a j z => go h1 a j (by omega)) (fun h1 => (ev f h1 f14).1) (fun h1 d0 d1 => ⟨di_dm (di_kp d0 h1.hy.1) (wa_kp h1.hy.1) ((kpA_o (wa_3 h1.hy.1) (by omega)).trans f14) n (Nat.le_refl n), d1.row (fun j => go h1 431 j (by decide))⟩)
    · have c9 := f_damp (x := x) (y := y) (z := z) h.1.ci (k := k) c3 hn12
      rwa [show fdV M n k = (dnS (keC M) n k n).2 from if_neg (by omega), show fdC M n k = (dnS (keC M) n k n).1 from if_neg (by omega), hf, hv] at c9
    · refine (m_damp h1.hy.1 f14 hn12).at (fun v9 S9 M9 p => ?_)
      rcases p with ⟨q0, ⟨p1, p2, p3⟩ | ⟨p1, p2, p3⟩⟩
      · exact ⟨p2.trans (by rw [(ev f h1 f14).2]), q0, p3⟩
      · exact absurd q p1
  · refine OpR.rd (v := some (0, -1)) h (fun x y z => ?_) (fun x y z => (m_damp h.1.hy.1 hn hn12).at (fun v9 S9 M9 p => ?_))
    · have c9 := f_damp (x := x) (y := y) (z := z) h.1.ci (k := k) c3 hn12
      rwa [show fdV M n k = -1 from if_pos (by omega), show fdC M n k = M from if_pos (by omega)] at c9
    · rcases p with ⟨q0, ⟨p1, p2, p3⟩ | ⟨p1, p2, p3⟩⟩
      · exact absurd p1 q
      · exact ⟨p2, q0, p3⟩
theorem op_hour {M : Me} (h : INV M) {k : Int} : OpR kX10_hour kX11_hour 4 4 [(0, k)] M := by
  obtain ⟨hn, hn12⟩ := h.1.hy.n
  have c3 : M 50 3 = (nC M : Int) := h.1.sc.2.1.2.2.2.1.trans hn
  generalize hN : nC M = n at hn hn12 c3
  have s := h.1.sc.2.1.1
  have w10 := wa_10 h.1.hy.1
  by_cases q : (1 ≤ k ∧ k ≤ 60) ∧ M 430 10 + k ≤ 9999
  · have kn : hsN M k = k := by unfold hsN; omega
    have w := hsS_w h.1.ci (n := (n : Int)) c3.symm k.toNat (by omega)
    have em : hsM M n k = hsS M n k.toNat := by unfold hsM; rw [kn]
    have fr : ∀ a j : Int, 429 ≤ a → hsS M n k.toNat a j = M a j := fun a j z => w.2.2 a j (by omega)
    have f14 := (fr 430 14 (by decide)).trans hn
    have f10 := fr 430 10 (by decide)
    have v10 := w.2.1
    have ev : ∀ f : Me, rlR M f → f 430 14 = (n : Int) → f 430 10 = M 430 10 → rlR (hsS M n k.toNat) (apS f n k.toNat) := fun f h1 e e2 => (rl_hs h1 e k.toNat (by omega)).1
    generalize hf : hsS M n k.toNat = f at fr f14 f10 v10 ev em
    have go : rlR M f → ∀ a j : Int, a ≠ 430 → apS f n k.toNat a j = f a j := fun h1 a j z => (apS_w h1.hy.1 (n := (n : Int)) (by omega) k.toNat (by omega)).2.2 a j (by omega)
    refine OpR.mk (f := f) (g := apS f n k.toNat) (v := some (0, M 430 10 + k)) h (fun x y z => ⟨x, y, z, ?_⟩) fr (fun h1 x y z => ?_) (fun h1 a j z => go h1 a j (by omega)) (fun h1 => ev f h1 f14 f10) (fun h1 d0 d1 => ⟨di_ap d0 h1.hy.1 (by omega) k.toNat (by omega), d1.row (fun j => go h1 431 j (by decide))⟩)
    · have c9 := f_hour (x := x) (y := y) (z := z) h.1.ci (k := k) c3 hn12
      rwa [show fhV M n k = M 430 10 + k from (if_neg (by omega)).trans (by rw [em, v10]; omega), show fhM M n k = f from (if_neg (by omega)).trans em] at c9
    · refine (m_hour h1.hy.1 f14 hn12).at (fun v9 S9 M9 p => ?_)
      rw [f10] at p
      rcases p with ⟨q0, ⟨p1, p2, p3⟩ | ⟨p1, p2, p3⟩⟩
      · exact ⟨p2, q0, p3⟩
      · exact absurd q p1
  · refine OpR.rd (v := some (0, -1)) h (fun x y z => ?_) (fun x y z => (m_hour h.1.hy.1 hn hn12).at (fun v9 S9 M9 p => ?_))
    · have c9 := f_hour (x := x) (y := y) (z := z) h.1.ci (k := k) c3 hn12
      rwa [show fhV M n k = -1 from if_pos (by omega), show fhM M n k = M from if_pos (by omega)] at c9
    · rcases p with ⟨q0, ⟨p1, p2, p3⟩ | ⟨p1, p2, p3⟩⟩
      · exact absurd p1 q
      · exact ⟨p2, q0, p3⟩
theorem op_pattern {M : Me} (h : INV M) {c : Int} : OpR kX10_pattern kX11_pattern 4 5 [(0, c)] M := by
  obtain ⟨hn, hn12⟩ := h.1.hy.n
  have c3 : M 50 3 = (nC M : Int) := h.1.sc.2.1.2.2.2.1.trans hn
  generalize hN : nC M = n at hn hn12 c3
  have w14 := wa_14 h.1.hy.1
  have s := h.1.sc.2.1.2.2.2.1
  by_cases q : (0 ≤ c ∧ c ≤ M 430 14 - 1) ∧ cbk M n c
  · have hm : mcP M n c := (rl_cm h.1 hn (by omega)).mpr q.2
    have k0 := (h.1.cr (c := c) (by omega) (by omega)).2.2.1
    have fr : ∀ a j : Int, 429 ≤ a → cbC (keC M) c (M 211 c) a j = M a j := fun a j z => (cbC_o (by omega)).trans (keC_o (by omega))
    have f14 := (fr 430 14 (by decide)).trans hn
    have f4 := fr 430 (15 + 7 * c + 4) (by decide)
    have fc : cbk (cbC (keC M) c (M 211 c)) n c := by
      have e : cbC (keC M) c (M 211 c) 430 = M 430 := funext fun j => fr 430 j (by decide)
      unfold cbk
      rw [e]; exact q.2
    have ev : ∀ f : Me, rlR M f → f 430 (15 + 7 * c + 4) = M 430 (15 + 7 * c + 4) → rlR (cbC (keC M) c (M 211 c)) (bcA (kpA f) c 0 (f 430 (15 + 7 * c + 4))) := fun f h1 e => by
      have w4 := wc_4 h1.hy.1 (c := c) (by omega)
      rw [k0, ← e]
      exact rl_cb (rl_ke h1) (by omega) w4
    generalize hf : cbC (keC M) c (M 211 c) = f at fr f14 f4 ev fc
    have go : rlR M f → ∀ a j : Int, a ≠ 430 → bcA (kpA f) c 0 (f 430 (15 + 7 * c + 4)) a j = f a j := fun h1 a j z => (bcA_o (wa_12 (wa_kp h1.hy.1)) (by omega) (by omega)).trans (kpA_o (wa_3 h1.hy.1) (by omega))
    refine OpR.mk (f := f) (g := bcA (kpA f) c 0 (f 430 (15 + 7 * c + 4))) (v := some (0, 1)) h (fun x y z => ⟨x, y, z, ?_⟩) fr (fun h1 x y z => ?_) (fun h1 a j z => go h1 a j (by omega)) (fun h1 => ev f h1 f4) (fun h1 d0 d1 => ⟨di_bc (di_kp d0 h1.hy.1) (wa_kp h1.hy.1) (by omega) (fun _ => by rw [(kpA_o (wa_3 h1.hy.1) (by omega))]; exact Int.le_refl _), d1.row (fun j => go h1 431 j (by decide))⟩)
    · have c9 := f_pattern (x := x) (y := y) (z := z) h.1.ci (c := c) c3 hn12
      rwa [show ptV M n c = 1 from if_pos hm, show ptC M n c = _ from if_pos hm, hf] at c9
    · refine (m_pattern h1.hy.1 f14 hn12).at (fun v9 S9 M9 p => ?_)
      rcases p with ⟨q0, ⟨p1, p2, p3⟩ | ⟨p1, p2, p3⟩⟩
      · exact ⟨p2, q0, p3⟩
      · exact absurd ⟨by omega, fc⟩ p1
  · have hm : ¬ mcP M n c := fun w => q ⟨by have := w.1; omega, (rl_cm h.1 hn (by have := w.1; omega)).mp w⟩
    refine OpR.rd (v := some (0, 0)) h (fun x y z => ?_) (fun x y z => (m_pattern h.1.hy.1 hn hn12).at (fun v9 S9 M9 p => ?_))
    · have c9 := f_pattern (x := x) (y := y) (z := z) h.1.ci (c := c) c3 hn12
      rwa [show ptV M n c = 0 from if_neg hm, show ptC M n c = M from if_neg hm] at c9
    · rcases p with ⟨q0, ⟨p1, p2, p3⟩ | ⟨p1, p2, p3⟩⟩
      · exact absurd p1 q
      · exact ⟨p2, q0, p3⟩
theorem op_image {M : Me} (h : INV M) : OpR kX10_image kX11_image 4 1 [] M := by
  have w3 := wa_3 h.1.hy.1
  have t := h.1.1.2.2.1
  obtain ⟨n, hn⟩ := Int.eq_ofNat_of_zero_le w3.1
  have hn : M 430 3 = (n : Int) := hn
  have hn30 : n ≤ 30 := by omega
  obtain ⟨⟨a0, -⟩, ⟨a1, -⟩, ⟨a2, -⟩, ⟨a3, -⟩, ⟨a4, -⟩, ⟨a5, -⟩, -⟩ := h.1.1.2.2.2.2.2.o
  have w4 := wa_4 h.1.hy.1; have w5 := wa_5 h.1.hy.1; have w6 := wa_6 h.1.hy.1; have w7 := wa_7 h.1.hy.1; have w8 := wa_8 h.1.hy.1; have w9 := wa_9 h.1.hy.1
  have v : sp_i M n 50 0 = M 430 10 := (sp_io hn30 (by omega)).trans h.1.sc.2.1.1
  have fr : ∀ a j : Int, 429 ≤ a → sp_i M n a j = M a j := fun a j z => sp_io hn30 (by omega)
  have ev : ∀ f : Me, rlR M f → f 430 3 = (n : Int) → rlR (sp_i M n) (cpy f 430 0 431 0 2142) := fun f h1 e => rl_im h1 e
  have c9 : ∀ x y z : Int, Con kX10_image 4 0 0 [(1, 0)] (Sf x y z) M (Ex (some (0, sp_i M n 50 0)) (Sf x y z) (sp_i M n)) := fun x y z => f_image (t.1.trans hn) hn30 t.2.1 (by rw [a0, a1, a2, a3, a4, a5]; exact ⟨w4, w5, w6, w7, w8, w9⟩)
  rw [v] at c9
  generalize hf : sp_i M n = f at fr ev c9
  refine OpR.mk (f := f) (g := cpy f 430 0 431 0 2142) (v := some (0, M 430 10)) h (fun x y z => ⟨x, y, z, c9 x y z⟩) fr (fun h1 x y z => ?_) (fun h1 a j z => cpy_out (by omega)) (fun h1 => ev f h1 ((fr 430 3 (by decide)).trans hn)) (fun h1 d0 d1 => ⟨d0.row (fun j => cpy_out (by omega)), di_cp d0 (wa_3 h1.hy.1).2 (wa_14 h1.hy.1).2⟩)
  have m := m_image (x := x) (y := y) (z := z) (M := f)
  rwa [fr 430 10 (by decide)] at m
theorem op_back {M : Me} (h : INV M) : OpR kX10_back kX11_back 4 1 [] M := by
  obtain ⟨-, hS, -, -, -, hA⟩ := h.1
  have hW := wr_i hA.2.1
  have w3 := wr_3 hW
  have t := hS.2.2.1
  obtain ⟨n, hn⟩ := Int.eq_ofNat_of_zero_le w3.1
  have hn : M 431 3 = (n : Int) := hn
  have hn30 : n ≤ 30 := by omega
  obtain ⟨⟨a0, -⟩, ⟨a1, -⟩, ⟨a2, -⟩, ⟨a3, -⟩, ⟨a4, -⟩, ⟨a5, -⟩, -⟩ := hS.2.2.2.2.2
  rw [show (239 : Int) + 166 = 405 by decide] at a0
  rw [show (239 : Int) + 170 = 409 by decide] at a1
  rw [show (239 : Int) + 174 = 413 by decide] at a2
  rw [show (239 : Int) + 178 = 417 by decide] at a3
  rw [show (239 : Int) + 182 = 421 by decide] at a4
  rw [show (239 : Int) + 186 = 425 by decide] at a5
  have w4 : 0 ≤ M 431 4 ∧ M 431 4 ≤ 8 := hW 4 (by decide) (by decide)
  have w5 : 0 ≤ M 431 5 ∧ M 431 5 ≤ 8 := hW 5 (by decide) (by decide)
  have w6 : 0 ≤ M 431 6 ∧ M 431 6 ≤ 8 := hW 6 (by decide) (by decide)
  have w7 : 0 ≤ M 431 7 ∧ M 431 7 ≤ 6 := hW 7 (by decide) (by decide)
  have w8 : 0 ≤ M 431 8 ∧ M 431 8 ≤ 8 := hW 8 (by decide) (by decide)
  have w9 : 0 ≤ M 431 9 ∧ M 431 9 ≤ 8 := hW 9 (by decide) (by decide)
  have fr : ∀ a j : Int, 429 ≤ a → sp_b M n a j = M a j := fun a j z => sp_bo hn30 (by omega)
  have ev : ∀ f : Me, rlR M f → f 431 3 = (n : Int) → rlR (sp_b M n) (cpy f 431 0 430 0 2142) := fun f h1 e => rl_bk h1 e
  have v : sp_b M n 50 0 = M 431 10 := (sp_bn (M := M) (n := n) (k := 0) (j := 0) hn30 (by decide) ⟨by decide, by rw [if_pos (by decide)]; decide⟩).trans hS.2.1.1.1
  have c9 : ∀ x y z : Int, Con kX10_back 4 0 0 [(1, 0)] (Sf x y z) M (Ex (some (0, sp_b M n 50 0)) (Sf x y z) (sp_b M n)) := fun x y z => f_back (t.1.trans hn) hn30 t.2.1 (by rw [a0, a1, a2, a3, a4, a5]; exact ⟨w4, w5, w6, w7, w8, w9⟩)
  rw [v] at c9
  generalize hf : sp_b M n = f at fr ev c9
  refine OpR.mk (f := f) (g := cpy f 431 0 430 0 2142) (v := some (0, M 431 10)) h (fun x y z => ⟨x, y, z, c9 x y z⟩) fr (fun h1 x y z => ?_) (fun h1 a j z => cpy_out (by omega)) (fun h1 => ev f h1 ((fr 431 3 (by decide)).trans hn)) (fun h1 d0 d1 => ⟨di_cp d1 (wr_3 (wr_i h1.2.2.2.2.2.2.1)).2 (wr_14 (wr_i h1.2.2.2.2.2.2.1)).2, d1.row (fun j => cpy_out (by omega))⟩)
  have m := m_back (x := x) (y := y) (z := z) (M := f)
  rwa [fr 431 10 (by decide)] at m
