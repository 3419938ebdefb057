theorem rlR.stp {C A C' A' : Me} (h : rlR C A) (hC : ∀ a j : Int, ¬ scrC a → ¬ (55 ≤ a ∧ a ≤ 206) → C' a j = C a j) (h10 : ∀ j : Int, C' 10 j = C 10 j) (hA : ∀ a j : Int, 429 ≤ a → a ≤ 433 → ¬ (a = 430 ∧ (j = 3 ∨ (192 ≤ j ∧ j < 2112))) → A' a j = A a j) (hW : WA A') (hT : rlT C' A' 49 430) : rlR C' A' := by
  obtain ⟨⟨a1, a2, a3, a4, a5, a6⟩, h2, h3, h4, h5, h6, h7, h8, h9⟩ := h
  have w0 := wa_0 h6.1
  have w1 := wa_1 h6.1
  have w14 := wa_14 h6.1
  have e : ∀ a : Int, 429 ≤ a → a ≤ 433 → a ≠ 430 → A' a = A a := fun a q0 q1 q => funext fun j => hA a j q0 q1 (fun w => q w.1)
  have eA : ∀ j : Int, ¬ (j = 3 ∨ (192 ≤ j ∧ j < 2112)) → A' 430 j = A 430 j := fun j q => hA 430 j (by decide) (by decide) (fun w => q w.2)
  refine ⟨⟨a1.of (fun j => hC 49 j (by unfold scrC; omega) (by omega)) ⟨eA _ (by omega), eA _ (by omega), eA _ (by omega)⟩,
      a2.of (fun a j q0 q1 => hC a j (by unfold scrC; omega) (by omega)) (fun j q => eA j (by omega)) (by omega) (by omega), hT,
      a4.of (by omega) (fun a j q0 q1 => hC a j (by unfold scrC; omega) (by omega)) (fun j q => eA j (by omega)),
      a5.of (by omega) (fun a j q0 q1 => hC a j (by unfold scrC; omega) (by omega)) (fun j q => eA j (by omega)) (by rw [eA 0 (by omega)]; exact Int.le_refl _),
      a6.of (wr_a h6.1) (fun a j q0 q1 => hC a j (by unfold scrC; omega) (by omega)) (fun j q => eA j (by omega)) (by rw [eA 14 (by omega)]; exact Int.le_refl _)⟩,
    h2.of (wr_i h7) (fun a j q0 q1 => hC a j (by unfold scrC; omega) (by omega)) (fun j _ _ => hA 431 j (by decide) (by decide) (by omega)) (fun j _ => hA 431 j (by decide) (by decide) (by omega)), ?_, ?_, ?_, ?_⟩
  · unfold rlXs
    rw [eA 1 (by omega), e 432 (by decide) (by decide) (by decide)]
    exact fun t g0 g1 => (h3 t g0 g1).of (fun a j q0 q1 => hC a j (by unfold scrC; omega) (by omega))
  · obtain ⟨b1, b2, b3, b4⟩ := h4
    unfold rlD
    rw [e 429 (by decide) (by decide) (by decide), e 433 (by decide) (by decide) (by decide), hC 2 0 (by unfold scrC; omega) (by omega), hC 2 1 (by unfold scrC; omega) (by omega), hC 2 2 (by unfold scrC; omega) (by omega)]
    exact ⟨b1, b2, b3, fun j g0 g1 => by rw [hC 3 j (by unfold scrC; omega) (by omega)]; exact b4 j g0 g1⟩
  · refine ⟨fun t g0 g1 => ?_, fun j g0 g1 => by rw [h10 j]; exact h5.2 j g0 g1⟩
    rw [hC (15 + 8 * t) 1 (by unfold scrC; omega) (by omega), hC (15 + 8 * t) 0 (by unfold scrC; omega) (by omega)]
    exact h5.1 t g0 g1
  · refine ⟨h6.of hW (eA 1 (by omega)) (eA 2 (by omega)) (e 432 (by decide) (by decide) (by decide)), ?_, ?_, ?_⟩
    · unfold WI; rw [e 431 (by decide) (by decide) (by decide)]; exact h7
    · rw [e 431 (by decide) (by decide) (by decide), eA 1 (by omega)]; exact h8
    · rw [e 431 (by decide) (by decide) (by decide)]; exact h9
theorem rlQ.to {C A C' A' : Me} {q r x x' : Int} (h : rlQ C A q r x) (hC : ∀ a j, q ≤ a → a ≤ q + 4 → C' a j = C a j) (hA : ∀ j, 0 ≤ j → j < 64 → A' r (x' + j) = A r (x + j)) (h0 : A r (x + 1) ≤ 5) (h14 : A r x ≤ 12) : rlQ C' A' q r x' := by
  have e0 : A' r x' = A r x := by have := hA 0 (by decide) (by decide); rwa [Int.add_zero, Int.add_zero] at this
  unfold rlQ
  rw [hC q _ (by omega) (by omega), hC q _ (by omega) (by omega), hC q _ (by omega) (by omega), hC q _ (by omega) (by omega), hC q _ (by omega) (by omega), hA 2 (by omega) (by omega), hA 3 (by omega) (by omega), hA 1 (by omega) (by omega), e0, hA 4 (by omega) (by omega)]
  refine ⟨h.1, fun p g0 g1 => ?_, fun c g0 g1 => ?_, fun i g0 g1 => ?_⟩
  · rw [hC _ _ (by omega) (by omega), show x' + 29 + p = x' + (29 + p) by omega, hA _ (by omega) (by omega), show x + (29 + p) = x + 29 + p by omega]; exact h.2.1 p g0 g1
  · rw [hC _ _ (by omega) (by omega), hC _ _ (by omega) (by omega), show x' + 5 + 2 * c + 1 = x' + (5 + 2 * c + 1) by omega, show x' + 5 + 2 * c = x' + (5 + 2 * c) by omega, hA (5 + 2 * c + 1) (by omega) (by omega), hA (5 + 2 * c) (by omega) (by omega), show x + (5 + 2 * c + 1) = x + 5 + 2 * c + 1 by omega, show x + (5 + 2 * c) = x + 5 + 2 * c by omega]; exact h.2.2.1 c g0 g1
  · rw [hC _ _ (by omega) (by omega), show x' + 34 + i = x' + (34 + i) by omega, hA _ (by omega) (by omega), show x + (34 + i) = x + 34 + i by omega]; exact h.2.2.2 i g0 g1
/-- the moment that is, kept -/
theorem rlQ.new {C A C' A' : Me} {q x : Int} (h : rlN C A 50 430) (h0 : A 430 0 ≤ 5) (h14 : A 430 14 ≤ 12) (c0 : ∀ j, 0 ≤ j → j < 5 → C' q j = C 50 j) (c1 : ∀ j, 0 ≤ j → j < 5 → C' (q + 1) j = C 51 j) (c2 : ∀ j, 0 ≤ j → j < 12 → C' (q + 2) j = C 52 j) (c3 : ∀ j, 0 ≤ j → j < 12 → C' (q + 3) j = C 53 j) (c4 : ∀ j, 0 ≤ j → j < 30 → C' (q + 4) j = C 54 j) (hA : ∀ t, 0 ≤ t → t < 64 → A' 430 (x + t) = rowv A t) : rlQ C' A' q 430 x := by
  obtain ⟨⟨b1, b2, b3, b4, b5⟩, b6, b7, b8⟩ := h.o
  have e0 : A' 430 x = A 430 14 := by have := hA 0 (by decide) (by decide); rwa [Int.add_zero] at this
  have e1 : A' 430 (x + 1) = A 430 0 := hA 1 (by decide) (by decide)
  unfold rlQ
  rw [c0 0 (by decide) (by decide), c0 1 (by decide) (by decide), c0 2 (by decide) (by decide), c0 3 (by decide) (by decide), c0 4 (by decide) (by decide), e0, e1, hA 2 (by decide) (by decide), hA 3 (by decide) (by decide), hA 4 (by decide) (by decide)]
  refine ⟨⟨b1, b2, b3, b4, b5⟩, fun p g0 g1 => ?_, fun c g0 g1 => ?_, fun i g0 g1 => ?_⟩
  · rw [c1 p g0 (by omega), show x + 29 + p = x + (29 + p) by omega, hA _ (by omega) (by omega), ← row_3 (z := 99 + 3 * p) (by omega) (by omega)]; exact b6 p g0 g1
  · rw [c2 c g0 (by omega), c3 c g0 (by omega), show x + 5 + 2 * c + 1 = x + (5 + 2 * c + 1) by omega, show x + 5 + 2 * c = x + (5 + 2 * c + 0) by omega, hA (5 + 2 * c + 1) (by omega) (by omega), hA (5 + 2 * c + 0) (by omega) (by omega), ← row_2 (z := 15 + 7 * c + 1) (by omega) (by decide) rfl, ← row_2 (z := 15 + 7 * c) (by omega) (by decide) (by omega)]; exact b7 c g0 g1
  · rw [c4 i g0 g1, show x + 34 + i = x + (34 + i) by omega, hA _ (by omega) (by omega), ← row_4 (z := 2112 + i) (by omega) rfl]; exact b8 i g0 g1
theorem rowv_c {A B : Me} (h : ∀ j : Int, j ≠ 3 → ¬ (192 ≤ j ∧ j < 2112) → B 430 j = A 430 j) {t : Int} (h0 : 0 ≤ t) (h1 : t < 64) : rowv B t = rowv A t := by
  unfold rowv
  (repeat' split) <;> exact h _ (by omega) (by omega)
theorem kpA_r {A : Me} (h3 : 0 ≤ A 430 3 ∧ A 430 3 ≤ 30) : kpA A 430 3 = (if A 430 3 = 30 then 30 else A 430 3 + 1) := by
  unfold kpA
  split <;> exact up_eq ⟨rfl, rfl⟩
/-- a step kept -/
theorem rl_ke {C A : Me} (h : rlR C A) : rlR (keC C) (kpA A) := by
  have w3 := wa_3 h.hy.1
  have w0 := wa_0 h.hy.1
  have w14 := wa_14 h.hy.1
  have hN := h.1.2.1
  obtain ⟨a1, a2, a3⟩ := h.1.2.2.1
  rw [show (49 : Int) + 6 = 55 by decide] at a1 a2 a3
  have hk := kp_sb (M := kaC C) (i := kaC C 55 0 - 1)
  refine h.stp (fun a j _ q => keC_o (by omega)) (fun j => keC_o (by omega)) (fun a j _ _ q => kpA_o w3 (by omega)) (wa_kp h.hy.1) ?_
  have hq : ∀ a j : Int, a < 55 → keC C a j = C a j := fun a j q => keC_o (by omega)
  have m0 : ∀ d : Int, d = kp_s (kaC C) (kaC C 55 0 - 1) → (∀ j, 0 ≤ j → j < 5 → keC C d j = C 50 j) ∧ (∀ j, 0 ≤ j → j < 5 → keC C (d + 1) j = C 51 j) ∧ (∀ j, 0 ≤ j → j < 12 → keC C (d + 2) j = C 52 j) ∧ (∀ j, 0 ≤ j → j < 12 → keC C (d + 3) j = C 53 j) ∧ (∀ j, 0 ≤ j → j < 30 → keC C (d + 4) j = C 54 j) := by
    intro d hd
    subst hd
    unfold keC
    exact ⟨fun j g0 g1 => (mcp_0 (by omega) rfl ⟨g0, g1⟩).trans (kaC_o (by omega)), fun j g0 g1 => (mcp_1 (by omega) rfl ⟨g0, g1⟩).trans (kaC_o (by omega)), fun j g0 g1 => (mcp_2 (by omega) rfl ⟨g0, g1⟩).trans (kaC_o (by omega)), fun j g0 g1 => (mcp_3 (by omega) rfl ⟨g0, g1⟩).trans (kaC_o (by omega)), fun j g0 g1 => (mcp_4 (by omega) rfl ⟨g0, g1⟩).trans (kaC_o (by omega))⟩
  have b14 : kpA A 430 14 = A 430 14 := kpA_o w3 (by omega)
  have b0 : kpA A 430 0 = A 430 0 := kpA_o w3 (by omega)
  unfold rlT
  rw [show (49 : Int) + 6 = 55 by decide, kpA_r w3, b14, b0]
  by_cases q : A 430 3 = 30
  · have c1 : kaC C = up C 55 1 ((C 55 1 + 1) % 30) := if_neg (by omega)
    have k0 : kaC C 55 0 = 30 := by rw [c1, up_ne (by omega)]; omega
    have k1 : kaC C 55 1 = (C 55 1 + 1) % 30 := by rw [c1, up_eq ⟨rfl, rfl⟩]
    have kk : kp_s (kaC C) (kaC C 55 0 - 1) = 57 + 5 * (((C 55 1 + 1) % 30 + 29) % 30) := by rw [k0]; unfold kp_s; rw [k1]; rfl
    have e0 : keC C 55 0 = 30 := (mcp_o (by omega)).trans k0
    have e1 : keC C 55 1 = (C 55 1 + 1) % 30 := (mcp_o (by omega)).trans k1
    rw [if_pos q, e0, e1]
    have eK : kpA A = up (pk (up (cpy A 430 256 430 192 1856) 430 3 29) 2048 64) 430 3 30 := if_pos q
    refine ⟨rfl, by omega, fun u g0 g1 => ?_⟩
    by_cases qu : u = 29
    · subst qu
      have hA : ∀ t, 0 ≤ t → t < 64 → kpA A 430 (192 + 64 * 29 + t) = rowv A t := fun t g2 g3 => by
        rw [eK]
        refine (up_ne (by omega)).trans ((pk_i (by omega)).trans ?_)
        rw [show 192 + 64 * 29 + t - 2048 = t by omega]
        exact rowv_c (fun j n3 nr => (up_ne (by omega)).trans (cpy_out (by omega))) g2 g3
      obtain ⟨m1, m2, m3, m4, m5⟩ := m0 (49 + 8 + 5 * (((C 55 1 + 1) % 30 + 29) % 30)) (by rw [kk]; omega)
      refine ⟨rlQ.new hN (by omega) (by omega) m1 m2 m3 m4 m5 hA, ?_, ?_⟩
      · have := hA 0 (by decide) (by decide)
        rw [Int.add_zero] at this
        rw [this]; exact Int.le_refl _
      · have := hA 1 (by decide) (by decide)
        rw [this]; exact Int.le_refl _
    · obtain ⟨r1, r2, r3⟩ := a3 (u + 1) (by omega) (by omega)
      have ix : 49 + 8 + 5 * (((C 55 1 + 1) % 30 + u) % 30) = 49 + 8 + 5 * ((C 55 1 + (u + 1)) % 30) := by omega
      have hA : ∀ t, 0 ≤ t → t < 64 → kpA A 430 (192 + 64 * u + t) = A 430 (192 + 64 * (u + 1) + t) := fun t g2 g3 => by
        rw [eK]
        refine (up_ne (by omega)).trans ((pk_o (by omega)).trans ((up_ne (by omega)).trans ((cpy_in ⟨rfl, by omega⟩).trans ?_)))
        congr 1; omega
      rw [ix]
      refine ⟨r1.to (fun a j q0 q1 => (mcp_o (by rw [kk]; omega)).trans (kaC_o (by omega))) hA (wr_s1 h.hy.1 (by omega)) (wr_s0 h.hy.1 (by omega)), ?_, ?_⟩
      · have := hA 0 (by decide) (by decide)
        rw [Int.add_zero, Int.add_zero] at this
        rw [this]; exact r2
      · have := hA 1 (by decide) (by decide)
        rw [this]; exact r3
  · have c1 : kaC C = up C 55 0 (C 55 0 + 1) := if_pos (by omega)
    have k0 : kaC C 55 0 = A 430 3 + 1 := by rw [c1, up_eq ⟨rfl, rfl⟩, a1]
    have k1 : kaC C 55 1 = C 55 1 := by rw [c1, up_ne (by omega)]
    have kk : kp_s (kaC C) (kaC C 55 0 - 1) = 57 + 5 * ((C 55 1 + A 430 3) % 30) := by rw [k0]; unfold kp_s; rw [k1]; congr 3; omega
    have e0 : keC C 55 0 = A 430 3 + 1 := (mcp_o (by omega)).trans k0
    have e1 : keC C 55 1 = C 55 1 := (mcp_o (by omega)).trans k1
    rw [if_neg q, e0, e1]
    have eK : kpA A = up (pk A (192 + 64 * A 430 3) 64) 430 3 (A 430 3 + 1) := if_neg q
    refine ⟨rfl, a2, fun u g0 g1 => ?_⟩
    by_cases qu : u = A 430 3
    · subst qu
      have hA : ∀ t, 0 ≤ t → t < 64 → kpA A 430 (192 + 64 * A 430 3 + t) = rowv A t := fun t g2 g3 => by
        rw [eK]
        refine (up_ne (by omega)).trans ((pk_i (by omega)).trans ?_)
        congr 1; omega
      obtain ⟨m1, m2, m3, m4, m5⟩ := m0 (49 + 8 + 5 * ((C 55 1 + A 430 3) % 30)) (by rw [kk]; omega)
      refine ⟨rlQ.new hN (by omega) (by omega) m1 m2 m3 m4 m5 hA, ?_, ?_⟩
      · have := hA 0 (by decide) (by decide)
        rw [Int.add_zero] at this
        rw [this]; exact Int.le_refl _
      · have := hA 1 (by decide) (by decide)
        rw [this]; exact Int.le_refl _
    · obtain ⟨r1, r2, r3⟩ := a3 u g0 (by omega)
      have hA : ∀ t, 0 ≤ t → t < 64 → kpA A 430 (192 + 64 * u + t) = A 430 (192 + 64 * u + t) := fun t g2 g3 => by
        rw [eK]
        exact (up_ne (by omega)).trans (pk_o (by omega))
      refine ⟨r1.to (fun a j q0 q1 => (mcp_o (by rw [kk]; omega)).trans (kaC_o (by omega))) hA (wr_s1 h.hy.1 (by omega)) (wr_s0 h.hy.1 (by omega)), ?_, ?_⟩
      · have := hA 0 (by decide) (by decide)
        rw [Int.add_zero] at this
        rw [this]; exact r2
      · have := hA 1 (by decide) (by decide)
        rw [this]; exact r3
/-- hours, each kept before -/
theorem rl_hs {C A : Me} (h : rlR C A) {n : Int} (hn : A 430 14 = n) : ∀ i : Nat, A 430 10 + i ≤ 9999 → rlR (hsS C n i) (apS A n i) ∧ apS A n i 430 14 = n ∧ apS A n i 430 10 = A 430 10 + i := by
  have w14 := wa_14 h.hy.1
  intro i
  induction i with
  | zero => intro _; exact ⟨h, hn, (show A 430 10 = A 430 10 + ((0 : Nat) : Int) by omega)⟩
  | succ i ih =>
    intro hi
    obtain ⟨h1, h2, h3⟩ := ih (by omega)
    have w := apS_w h.hy.1 (n := n) (by omega) (i + 1) hi
    have k14 : kpA (apS A n i) 430 14 = n := (kpA_o (wa_3 h1.hy.1) (by omega)).trans h2
    have k10 : kpA (apS A n i) 430 10 = A 430 10 + i := (kpA_o (wa_3 h1.hy.1) (by omega)).trans h3
    exact ⟨rl_ph (rl_ke h1) k14 (by omega), (w.2.2 _ _ (by omega)).trans hn, w.2.1⟩
