theorem rlX.of {C C' : Me} {T : Int → Int} {t : Int} (h : rlX C T t) (hC : ∀ a j : Int, 15 + 8 * t ≤ a → a ≤ 15 + 8 * t + 7 → C' a j = C a j) : rlX C' T t := by
  have e1 : C' (15 + 8 * t + 1) = C (15 + 8 * t + 1) := funext fun j => hC _ j (by omega) (by omega)
  have e2 : C' (15 + 8 * t + 2) = C (15 + 8 * t + 2) := funext fun j => hC _ j (by omega) (by omega)
  have e0 : C' (15 + 8 * t) = C (15 + 8 * t) := funext fun j => hC _ j (by omega) (by omega)
  have e3 : C' (15 + 8 * t + 3) = C (15 + 8 * t + 3) := funext fun j => hC _ j (by omega) (by omega)
  have e5 : C' (15 + 8 * t + 5) = C (15 + 8 * t + 5) := funext fun j => hC _ j (by omega) (by omega)
  have e6 : C' (15 + 8 * t + 6) = C (15 + 8 * t + 6) := funext fun j => hC _ j (by omega) (by omega)
  have e7 : C' (15 + 8 * t + 7) = C (15 + 8 * t + 7) := funext fun j => hC _ j (by omega) (by omega)
  unfold rlX rlW cVal
  rw [e0, e1, e2, e3, e5, e6, e7]
  exact h
theorem rlS.of {C A C' A' : Me} {s r : Int} (h : rlS C A s r) (hW : WR A r) (hC : ∀ a j, s ≤ a → a ≤ s + 188 → C' a j = C a j) (hA : ∀ j, 0 ≤ j → j < 2142 → A' r j = A r j) (hE : ∀ j, 2142 ≤ j → A' r j = A r j) : rlS C' A' s r := by
  obtain ⟨h1, h2, h3, h4, h5, h6⟩ := h
  have w0 := wr_0 hW
  have w14 := wr_14 hW
  have hA2 : ∀ j, 0 ≤ j → A' r j = A r j := fun j g => by
    by_cases q : j < 2142
    · exact hA j g q
    · exact hE j (by omega)
  exact ⟨h1.of (fun j => hC s j (by omega) (by omega)) ⟨hA2 _ (by decide), hA2 _ (by decide), hA2 _ (by decide)⟩,
    h2.of (fun a j q0 q1 => hC a j (by omega) (by omega)) (fun j q => hA2 j (by omega)) (by omega) (by omega),
    h3.of hW (fun a j q0 q1 => hC a j (by omega) (by omega)) (fun j q => hA2 j (by omega)) (by rw [hA2 0 (by decide)]; exact Int.le_refl _) (by rw [hA2 14 (by decide)]; exact Int.le_refl _),
    h4.of (by omega) (fun a j q0 q1 => hC a j (by omega) (by omega)) (fun j q => hA2 j (by omega)),
    h5.of (by omega) (fun a j q0 q1 => hC a j (by omega) (by omega)) (fun j q => hA2 j (by omega)) (by rw [hA2 0 (by decide)]; exact Int.le_refl _),
    h6.of hW (fun a j q0 q1 => hC a j (by omega) (by omega)) (fun j q => hA2 j (by omega)) (by rw [hA2 14 (by decide)]; exact Int.le_refl _)⟩
/-- the class's scratch -/
abbrev scrC (a : Int) : Prop := a < 2 ∨ (4 ≤ a ∧ a ≤ 14) ∨ a = 47 ∨ a = 48 ∨ 429 ≤ a
theorem rlR.c {C A C' : Me} (h : rlR C A) (hC : ∀ a j : Int, ¬ scrC a → C' a j = C a j) (h10 : ∀ j : Int, 0 ≤ j → j < 12 → 0 ≤ C' 10 j ∧ C' 10 j ≤ 100000) : rlR C' A := by
  obtain ⟨h1, h2, h3, h4, h5, h6⟩ := h
  refine ⟨h1.of (wr_a h6.1.1) (fun a j q0 q1 => hC a j (by unfold scrC; omega)) (fun _ _ _ => rfl) (fun _ _ => rfl), h2.of (wr_i h6.2.1) (fun a j q0 q1 => hC a j (by unfold scrC; omega)) (fun _ _ _ => rfl) (fun _ _ => rfl), fun t g0 g1 => (h3 t g0 g1).of (fun a j q0 q1 => hC a j (by have := wa_1 h6.1.1; unfold scrC; omega)), ?_, ?_, h6⟩
  · obtain ⟨a1, a2, a3, a4⟩ := h4
    unfold rlD
    rw [hC 2 0 (by unfold scrC; omega), hC 2 1 (by unfold scrC; omega), hC 2 2 (by unfold scrC; omega)]
    exact ⟨a1, a2, a3, fun j g0 g1 => by rw [hC 3 j (by unfold scrC; omega)]; exact a4 j g0 g1⟩
  · refine ⟨fun t g0 g1 => ?_, h10⟩
    rw [hC (15 + 8 * t) 1 (by unfold scrC; omega), hC (15 + 8 * t) 0 (by unfold scrC; omega)]
    exact h5.1 t g0 g1
theorem rlR.a {C A A' : Me} (h : rlR C A) (hA : ∀ a j : Int, 429 ≤ a → a ≤ 433 → A' a j = A a j) : rlR C A' := by
  obtain ⟨h1, h2, h3, h4, h5, h6, h7, h8, h9⟩ := h
  have e : ∀ a : Int, 429 ≤ a → a ≤ 433 → A' a = A a := fun a q0 q1 => funext fun j => hA a j q0 q1
  refine ⟨h1.of (wr_a h6.1) (fun _ _ _ _ => rfl) (fun j _ _ => hA _ j (by decide) (by decide)) (fun j _ => hA _ j (by decide) (by decide)), h2.of (wr_i h7) (fun _ _ _ _ => rfl) (fun j _ _ => hA _ j (by decide) (by decide)) (fun j _ => hA _ j (by decide) (by decide)), ?_, ?_, h5, ?_⟩
  · unfold rlXs
    rw [e 430 (by decide) (by decide), e 432 (by decide) (by decide)]
    exact h3
  · unfold rlD
    rw [e 429 (by decide) (by decide), e 433 (by decide) (by decide)]
    exact h4
  · refine ⟨h6.of ?_ (hA 430 1 (by decide) (by decide)) (hA 430 2 (by decide) (by decide)) (e 432 (by decide) (by decide)), ?_, ?_, ?_⟩
    · unfold WA; rw [e 430 (by decide) (by decide)]; exact h6.1
    · unfold WI; rw [e 431 (by decide) (by decide)]; exact h7
    · rw [e 431 (by decide) (by decide), e 430 (by decide) (by decide)]; exact h8
    · rw [e 431 (by decide) (by decide)]; exact h9
/-- of two memories the one that has the class's cells of the first and the reference's of the second -/
theorem rlR.one {C A M : Me} (h : rlR C A) (hC : ∀ a j : Int, a < 429 → M a j = C a j) (hA : ∀ a j : Int, 429 ≤ a → M a j = A a j) : rlR M M := by
  refine (h.c (C' := M) (fun a j q => hC a j (by unfold scrC at q; omega)) (fun j g0 g1 => by rw [hC 10 j (by decide)]; exact h.2.2.2.2.1.2 j g0 g1)).a (fun a j q0 q1 => hA a j q0)
theorem rlR.ci {C A : Me} (h : rlR C A) : CI C := by
  obtain ⟨⟨⟨a1, a2, a3⟩, ⟨⟨b1, b2, b3, b4, b5⟩, b6, b7, b8⟩, ⟨c1, c2, c3⟩, h4, h5, h6⟩, -, -, -, ⟨f1, f2⟩, hY, hI, -⟩ := h
  have hW := hY.1
  have w0 := wa_0 hW; have w1 := wa_1 hW; have w3 := wa_3 hW; have w10 := wa_10 hW; have w11 := wa_11 hW; have w12 := wa_12 hW; have w13 := wa_13 hW; have w14 := wa_14 hW
  rw [show (49 : Int) + 1 = 50 by decide] at b1 b2 b3 b4 b5
  rw [show (49 : Int) + 6 = 55 by decide] at c1 c2
  refine ⟨⟨by omega, by omega, by omega, by omega, by omega, by omega, by omega, by omega, c2⟩, fun c g0 g1 => ?_, fun p g0 g1 => ?_, f1⟩
  · obtain ⟨⟨k1, k2⟩, k3, k4, k5, k6, k7, -⟩ := h5 c g0 (by omega)
    have n := b7 c g0 (by omega)
    rw [show (49 : Int) + 1 + 2 = 52 by decide, show (49 : Int) + 1 + 3 = 53 by decide] at n
    rw [show (49 : Int) + 160 = 209 by decide] at k1
    rw [show (49 : Int) + 161 = 210 by decide] at k3
    rw [show (49 : Int) + 162 = 211 by decide] at k4
    rw [show (49 : Int) + 163 = 212 by decide] at k5
    rw [show (49 : Int) + 164 = 213 by decide] at k6
    rw [show (49 : Int) + 165 = 214 by decide] at k7
    have hc : 0 ≤ c ∧ c < 12 := by omega
    have x0 := wc_0 hW hc; have x1 := wc_1 hW hc; have x2 := wc_2 hW hc; have x3 := wc_3 hW hc; have x4 := wc_4 hW hc; have x5 := wc_5 hW hc; have x6 := wc_6 hW hc
    have hh := hangT4 (T := tiR A 430) (n := (A 430 14).toNat) (by omega) hc
    rw [Int.add_zero] at x0
    refine ⟨by omega, by rw [k7]; exact hh, by omega, by omega, by omega, by omega, by omega, by omega⟩
  · have n := b6 p g0 (by omega)
    have m := h4 p g0 (by omega)
    rw [show (49 : Int) + 1 + 1 = 51 by decide] at n
    rw [show (49 : Int) + 158 = 207 by decide, show (49 : Int) + 159 = 208 by decide] at m
    have hp : 0 ≤ p ∧ p < 5 := by omega
    have x0 := wp_0 hW hp; have x1 := wp_1 hW hp; have x2 := wp_2 hW hp
    rw [Int.add_zero] at x0
    omega
