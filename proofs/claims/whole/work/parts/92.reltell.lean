theorem rlR.sp {C A C' A' : Me} (h : rlR C A) (hC : ∀ a j : Int, ¬ scrC a → ¬ (49 ≤ a ∧ a ≤ 238) → C' a j = C a j) (h10 : ∀ j : Int, C' 10 j = C 10 j) (hA : ∀ a j : Int, 429 ≤ a → a ≤ 433 → a ≠ 430 → A' a j = A a j) (hW : WA A') (e1 : A' 430 1 = A 430 1) (e2 : A' 430 2 < A' 430 1) (hS : rlS C' A' 49 430) : rlR C' A' := by
  obtain ⟨h1, h2, h3, h4, h5, h6, h7, h8, h9⟩ := h
  have w1 := wa_1 h6.1
  have e : ∀ a : Int, 429 ≤ a → a ≤ 433 → a ≠ 430 → A' a = A a := fun a q0 q1 q => funext fun j => hA a j q0 q1 q
  refine ⟨hS, h2.of (wr_i h7) (fun a j q0 q1 => hC a j (by unfold scrC; omega) (by omega)) (fun j _ _ => hA 431 j (by decide) (by decide) (by decide)) (fun j _ => hA 431 j (by decide) (by decide) (by decide)), ?_, ?_, ?_, ?_⟩
  · unfold rlXs
    rw [e1, e 432 (by decide) (by decide) (by decide)]
    exact fun t g0 g1 => (h3 t g0 g1).of (fun a j q0 q1 => hC a j (by unfold scrC; omega) (by omega))
  · obtain ⟨b1, b2, b3, b4⟩ := h4
    unfold rlD
    rw [e 429 (by decide) (by decide) (by decide), e 433 (by decide) (by decide) (by decide), hC 2 0 (by unfold scrC; omega) (by omega), hC 2 1 (by unfold scrC; omega) (by omega), hC 2 2 (by unfold scrC; omega) (by omega)]
    exact ⟨b1, b2, b3, fun j g0 g1 => by rw [hC 3 j (by unfold scrC; omega) (by omega)]; exact b4 j g0 g1⟩
  · refine ⟨fun t g0 g1 => ?_, fun j g0 g1 => by rw [h10 j]; exact h5.2 j g0 g1⟩
    rw [hC (15 + 8 * t) 1 (by unfold scrC; omega) (by omega), hC (15 + 8 * t) 0 (by unfold scrC; omega) (by omega)]
    exact h5.1 t g0 g1
  · refine ⟨⟨hW, e2, ?_⟩, ?_, ?_, ?_⟩
    · have hT := h6.2.2
      unfold TXT
      rw [e1, e 432 (by decide) (by decide) (by decide)]
      exact hT
    · unfold WI; rw [e 431 (by decide) (by decide) (by decide)]; exact h7
    · rw [e 431 (by decide) (by decide) (by decide), e1]; exact h8
    · rw [e 431 (by decide) (by decide) (by decide)]; exact h9
theorem rl_heat {C A : Me} (h : rlR C A) {g : Int} (hg : 0 ≤ g ∧ g ≤ 9) : rlR (up C 49 0 g) (up A 430 13 g) := by
  have w0 := wa_0 h.hy.1
  have w1 := wa_1 h.hy.1
  have w14 := wa_14 h.hy.1
  refine h.sp (fun a j _ q => up_ne (by omega)) (fun j => up_ne (by omega)) (fun a j _ _ q => up_ne (by omega)) (wu_13 h.hy.1 hg) (up_ne (by omega)) (by rw [up_ne (by omega), up_ne (by omega)]; exact h.hy.2.1) ⟨?_, h.1.2.1.of (fun a j q0 q1 => up_ne (by omega)) (fun j q => up_ne (by omega)) (by omega) (by omega), h.1.2.2.1.of (wr_a h.hy.1) (fun a j q0 q1 => up_ne (by omega)) (fun j q => up_ne (by omega)) (by rw [up_ne (by omega)]; exact Int.le_refl _) (by rw [up_ne (by omega)]; exact Int.le_refl _), h.1.2.2.2.1.of (by omega) (fun a j q0 q1 => up_ne (by omega)) (fun j q => up_ne (by omega)), h.1.2.2.2.2.1.of (by omega) (fun a j q0 q1 => up_ne (by omega)) (fun j q => up_ne (by omega)) (by rw [up_ne (by omega)]; exact Int.le_refl _), h.1.2.2.2.2.2.of (wr_a h.hy.1) (fun a j q0 q1 => up_ne (by omega)) (fun j q => up_ne (by omega)) (by rw [up_ne (by omega)]; exact Int.le_refl _)⟩
  exact ⟨(up_eq ⟨rfl, rfl⟩).trans (up_eq ⟨rfl, rfl⟩).symm, (up_ne (by omega)).trans (h.sc.1.2.1.trans (up_ne (by omega)).symm), (up_ne (by omega)).trans (h.sc.1.2.2.trans (up_ne (by omega)).symm)⟩
theorem rl_by {C A : Me} (h : rlR C A) {t : Int} (ht : -1 ≤ t ∧ t < A 430 1) : rlR (up C 49 2 t) (up A 430 2 t) := by
  have w0 := wa_0 h.hy.1
  have w1 := wa_1 h.hy.1
  have w14 := wa_14 h.hy.1
  refine h.sp (fun a j _ q => up_ne (by omega)) (fun j => up_ne (by omega)) (fun a j _ _ q => up_ne (by omega)) (wu_2 h.hy.1 (by omega)) (up_ne (by omega)) (by rw [up_eq ⟨rfl, rfl⟩, up_ne (by omega)]; exact ht.2) ⟨?_, h.1.2.1.of (fun a j q0 q1 => up_ne (by omega)) (fun j q => up_ne (by omega)) (by omega) (by omega), h.1.2.2.1.of (wr_a h.hy.1) (fun a j q0 q1 => up_ne (by omega)) (fun j q => up_ne (by omega)) (by rw [up_ne (by omega)]; exact Int.le_refl _) (by rw [up_ne (by omega)]; exact Int.le_refl _), h.1.2.2.2.1.of (by omega) (fun a j q0 q1 => up_ne (by omega)) (fun j q => up_ne (by omega)), h.1.2.2.2.2.1.of (by omega) (fun a j q0 q1 => up_ne (by omega)) (fun j q => up_ne (by omega)) (by rw [up_ne (by omega)]; exact Int.le_refl _), h.1.2.2.2.2.2.of (wr_a h.hy.1) (fun a j q0 q1 => up_ne (by omega)) (fun j q => up_ne (by omega)) (by rw [up_ne (by omega)]; exact Int.le_refl _)⟩
  exact ⟨(up_ne (by omega)).trans (h.sc.1.1.trans (up_ne (by omega)).symm), (up_ne (by omega)).trans (h.sc.1.2.1.trans (up_ne (by omega)).symm), (up_eq ⟨rfl, rfl⟩).trans (up_eq ⟨rfl, rfl⟩).symm⟩
/-- the lists, number by number -/
theorem rlL.mk {C A : Me} (l0 : C 215 0 = A 430 4 ∧ ∀ i : Int, 0 ≤ i → i < A 430 4 → (C 216 i = A 430 (114 + 2 * i) ∧ A 430 (114 + 2 * i) < A 430 14) ∧ C 217 i = A 430 (114 + 2 * i + 1)) (l1 : C 219 0 = A 430 5 ∧ ∀ i : Int, 0 ≤ i → i < A 430 5 → C 220 i = A 430 (130 + i)) (l2 : C 223 0 = A 430 6 ∧ ∀ i : Int, 0 ≤ i → i < A 430 6 → C 224 i = A 430 (138 + 3 * i) ∧ C 225 i = A 430 (138 + 3 * i + 1) ∧ C 226 i = A 430 (138 + 3 * i + 2)) (l3 : C 227 0 = A 430 7 ∧ ∀ i : Int, 0 ≤ i → i < A 430 7 → C 228 i = A 430 (162 + i) ∧ 1 ≤ A 430 (162 + i)) (l4 : C 231 0 = A 430 8 ∧ ∀ i : Int, 0 ≤ i → i < A 430 8 → C 232 i = A 430 (168 + i)) (l5 : C 235 0 = A 430 9 ∧ ∀ i : Int, 0 ≤ i → i < A 430 9 → (C 236 i = A 430 (176 + 2 * i) ∧ A 430 (176 + 2 * i) < A 430 14) ∧ C 237 i = A 430 (176 + 2 * i + 1)) (l6 : ∀ j : Int, 0 ≤ j → j < 8 → 0 ≤ C 226 j ∧ C 226 j ≤ 999) : rlL C A 49 430 := ⟨l0, l1, l2, l3, l4, l5, l6⟩
theorem rlL.o {C A : Me} (h : rlL C A 49 430) : (C 215 0 = A 430 4 ∧ ∀ i : Int, 0 ≤ i → i < A 430 4 → (C 216 i = A 430 (114 + 2 * i) ∧ A 430 (114 + 2 * i) < A 430 14) ∧ C 217 i = A 430 (114 + 2 * i + 1)) ∧ (C 219 0 = A 430 5 ∧ ∀ i : Int, 0 ≤ i → i < A 430 5 → C 220 i = A 430 (130 + i)) ∧ (C 223 0 = A 430 6 ∧ ∀ i : Int, 0 ≤ i → i < A 430 6 → C 224 i = A 430 (138 + 3 * i) ∧ C 225 i = A 430 (138 + 3 * i + 1) ∧ C 226 i = A 430 (138 + 3 * i + 2)) ∧ (C 227 0 = A 430 7 ∧ ∀ i : Int, 0 ≤ i → i < A 430 7 → C 228 i = A 430 (162 + i) ∧ 1 ≤ A 430 (162 + i)) ∧ (C 231 0 = A 430 8 ∧ ∀ i : Int, 0 ≤ i → i < A 430 8 → C 232 i = A 430 (168 + i)) ∧ (C 235 0 = A 430 9 ∧ ∀ i : Int, 0 ≤ i → i < A 430 9 → (C 236 i = A 430 (176 + 2 * i) ∧ A 430 (176 + 2 * i) < A 430 14) ∧ C 237 i = A 430 (176 + 2 * i + 1)) ∧ (∀ j : Int, 0 ≤ j → j < 8 → 0 ≤ C 226 j ∧ C 226 j ≤ 999) := h
theorem rl_ewant {C A : Me} (h : rlR C A) : rlR (up C 215 0 0) (up A 430 4 0) := by
  have w0 := wa_0 h.hy.1
  have w1 := wa_1 h.hy.1
  have w14 := wa_14 h.hy.1
  have w4 := wa_4 h.hy.1
  have w5 := wa_5 h.hy.1
  have w6 := wa_6 h.hy.1
  have w7 := wa_7 h.hy.1
  have w8 := wa_8 h.hy.1
  have w9 := wa_9 h.hy.1
  obtain ⟨⟨a0, b0⟩, ⟨a1, b1⟩, ⟨a2, b2⟩, ⟨a3, b3⟩, ⟨a4, b4⟩, ⟨a5, b5⟩, b6⟩ := h.1.2.2.2.2.2.o
  refine h.sp (fun a j _ q => up_ne (by omega)) (fun j => up_ne (by omega)) (fun a j _ _ q => up_ne (by omega)) (wu_4 h.hy.1 (by decide)) (up_ne (by omega)) (by rw [up_ne (by omega), up_ne (by omega)]; exact h.hy.2.1) ⟨h.1.1.of (fun j => up_ne (by omega)) ⟨up_ne (by omega), up_ne (by omega), up_ne (by omega)⟩, h.1.2.1.of (fun a j q0 q1 => up_ne (by omega)) (fun j q => up_ne (by omega)) (by omega) (by omega), h.1.2.2.1.of (wr_a h.hy.1) (fun a j q0 q1 => up_ne (by omega)) (fun j q => up_ne (by omega)) (by rw [up_ne (by omega)]; exact Int.le_refl _) (by rw [up_ne (by omega)]; exact Int.le_refl _), h.1.2.2.2.1.of (by omega) (fun a j q0 q1 => up_ne (by omega)) (fun j q => up_ne (by omega)), h.1.2.2.2.2.1.of (by omega) (fun a j q0 q1 => up_ne (by omega)) (fun j q => up_ne (by omega)) (by rw [up_ne (by omega)]; exact Int.le_refl _), ?_⟩
  exact rlL.mk ⟨(up_eq ⟨rfl, rfl⟩).trans (up_eq ⟨rfl, rfl⟩).symm, fun i g0 g1 => by rw [up_eq ⟨rfl, rfl⟩] at g1; omega⟩ ⟨by rw [up_ne (by omega), up_ne (by omega)]; exact a1, fun i g0 g1 => by rw [up_ne (by omega)] at g1; have b := b1 i g0 g1; simp (disch := omega) only [up_ne, up_eq]; exact b⟩ ⟨by rw [up_ne (by omega), up_ne (by omega)]; exact a2, fun i g0 g1 => by rw [up_ne (by omega)] at g1; have b := b2 i g0 g1; simp (disch := omega) only [up_ne, up_eq]; exact b⟩ ⟨by rw [up_ne (by omega), up_ne (by omega)]; exact a3, fun i g0 g1 => by rw [up_ne (by omega)] at g1; have b := b3 i g0 g1; simp (disch := omega) only [up_ne, up_eq]; exact b⟩ ⟨by rw [up_ne (by omega), up_ne (by omega)]; exact a4, fun i g0 g1 => by rw [up_ne (by omega)] at g1; have b := b4 i g0 g1; simp (disch := omega) only [up_ne, up_eq]; exact b⟩ ⟨by rw [up_ne (by omega), up_ne (by omega)]; exact a5, fun i g0 g1 => by rw [up_ne (by omega)] at g1; have b := b5 i g0 g1; simp (disch := omega) only [up_ne, up_eq]; exact b⟩ (fun j g0 g1 => by rw [up_ne (by omega)]; exact b6 j g0 g1)
set_option maxHeartbeats 1000000 in
theorem rl_awant {C A : Me} (h : rlR C A) {n u v w : Int} (hn : A 430 4 = n) (hn8 : n < 8) (hu : 0 ≤ u ∧ u < A 430 14) (hv : 0 ≤ v ∧ v ≤ 1) : rlR (up (up (up (up C 216 n u) 217 n v) 218 n w) 215 0 (n + 1)) (up (up (up A 430 (114 + 2 * n) u) 430 (114 + 2 * n + 1) v) 430 4 (n + 1)) := by
  have w0 := wa_0 h.hy.1
  have w1 := wa_1 h.hy.1
  have w14 := wa_14 h.hy.1
  have w4 := wa_4 h.hy.1
  have w5 := wa_5 h.hy.1
  have w6 := wa_6 h.hy.1
  have w7 := wa_7 h.hy.1
  have w8 := wa_8 h.hy.1
  have w9 := wa_9 h.hy.1
  obtain ⟨⟨a0, b0⟩, ⟨a1, b1⟩, ⟨a2, b2⟩, ⟨a3, b3⟩, ⟨a4, b4⟩, ⟨a5, b5⟩, b6⟩ := h.1.2.2.2.2.2.o
  refine h.sp (fun a j _ q => (up_ne (by omega)).trans ((up_ne (by omega)).trans ((up_ne (by omega)).trans (up_ne (by omega))))) (fun j => (up_ne (by omega)).trans ((up_ne (by omega)).trans ((up_ne (by omega)).trans (up_ne (by omega))))) (fun a j _ _ q => (up_ne (by omega)).trans ((up_ne (by omega)).trans (up_ne (by omega)))) (wu_4 (xw_1 (by have q := xw_0 h.hy.1 (c := n) (v := u) (by omega) (by omega); rwa [Int.add_zero] at q) (c := n) (by omega) hv) (by omega)) ((up_ne (by omega)).trans ((up_ne (by omega)).trans (up_ne (by omega)))) (by simp (disch := omega) only [up_ne, up_eq]; exact h.hy.2.1) ⟨h.1.1.of (fun j => (up_ne (by omega)).trans ((up_ne (by omega)).trans ((up_ne (by omega)).trans (up_ne (by omega))))) ⟨(up_ne (by omega)).trans ((up_ne (by omega)).trans (up_ne (by omega))), (up_ne (by omega)).trans ((up_ne (by omega)).trans (up_ne (by omega))), (up_ne (by omega)).trans ((up_ne (by omega)).trans (up_ne (by omega)))⟩, h.1.2.1.of (fun a j q0 q1 => (up_ne (by omega)).trans ((up_ne (by omega)).trans ((up_ne (by omega)).trans (up_ne (by omega))))) (fun j q => (up_ne (by omega)).trans ((up_ne (by omega)).trans (up_ne (by omega)))) (by omega) (by omega), h.1.2.2.1.of (wr_a h.hy.1) (fun a j q0 q1 => (up_ne (by omega)).trans ((up_ne (by omega)).trans ((up_ne (by omega)).trans (up_ne (by omega))))) (fun j q => (up_ne (by omega)).trans ((up_ne (by omega)).trans (up_ne (by omega)))) (by rw [(up_ne (by omega)).trans ((up_ne (by omega)).trans (up_ne (by omega)))]; exact Int.le_refl _) (by rw [(up_ne (by omega)).trans ((up_ne (by omega)).trans (up_ne (by omega)))]; exact Int.le_refl _), h.1.2.2.2.1.of (by omega) (fun a j q0 q1 => (up_ne (by omega)).trans ((up_ne (by omega)).trans ((up_ne (by omega)).trans (up_ne (by omega))))) (fun j q => (up_ne (by omega)).trans ((up_ne (by omega)).trans (up_ne (by omega)))), h.1.2.2.2.2.1.of (by omega) (fun a j q0 q1 => (up_ne (by omega)).trans ((up_ne (by omega)).trans ((up_ne (by omega)).trans (up_ne (by omega))))) (fun j q => (up_ne (by omega)).trans ((up_ne (by omega)).trans (up_ne (by omega)))) (by rw [(up_ne (by omega)).trans ((up_ne (by omega)).trans (up_ne (by omega)))]; exact Int.le_refl _), ?_⟩
  exact rlL.mk ⟨(up_eq ⟨rfl, rfl⟩).trans (up_eq ⟨rfl, rfl⟩).symm, fun i g0 g1 => by
    rw [up_eq ⟨rfl, rfl⟩] at g1
    by_cases e : i = n
    · subst e; simp (disch := omega) only [up_ne, up_eq]; first | done | (exact ⟨⟨trivial, hu.2⟩, trivial⟩) | (exact hu.1) | (exact ⟨trivial, hu.1⟩) | (simp only [true_and, and_true]; first | done | exact hu.2 | exact hu.1)
    · have b := b0 i g0 (by omega)
      simp (disch := omega) only [up_ne, up_eq]; exact b⟩ ⟨by simp (disch := omega) only [up_ne, up_eq]; exact a1, fun i g0 g1 => by simp (disch := omega) only [up_ne, up_eq] at g1; have b := b1 i g0 g1; simp (disch := omega) only [up_ne, up_eq]; exact b⟩ ⟨by simp (disch := omega) only [up_ne, up_eq]; exact a2, fun i g0 g1 => by simp (disch := omega) only [up_ne, up_eq] at g1; have b := b2 i g0 g1; simp (disch := omega) only [up_ne, up_eq]; exact b⟩ ⟨by simp (disch := omega) only [up_ne, up_eq]; exact a3, fun i g0 g1 => by simp (disch := omega) only [up_ne, up_eq] at g1; have b := b3 i g0 g1; simp (disch := omega) only [up_ne, up_eq]; exact b⟩ ⟨by simp (disch := omega) only [up_ne, up_eq]; exact a4, fun i g0 g1 => by simp (disch := omega) only [up_ne, up_eq] at g1; have b := b4 i g0 g1; simp (disch := omega) only [up_ne, up_eq]; exact b⟩ ⟨by simp (disch := omega) only [up_ne, up_eq]; exact a5, fun i g0 g1 => by simp (disch := omega) only [up_ne, up_eq] at g1; have b := b5 i g0 g1; simp (disch := omega) only [up_ne, up_eq]; exact b⟩ (fun j g0 g1 => by simp (disch := omega) only [up_ne, up_eq]; exact b6 j g0 g1)
theorem rl_eboard {C A : Me} (h : rlR C A) : rlR (up C 219 0 0) (up A 430 5 0) := by
  have w0 := wa_0 h.hy.1
  have w1 := wa_1 h.hy.1
  have w14 := wa_14 h.hy.1
  have w4 := wa_4 h.hy.1
  have w5 := wa_5 h.hy.1
  have w6 := wa_6 h.hy.1
  have w7 := wa_7 h.hy.1
  have w8 := wa_8 h.hy.1
  have w9 := wa_9 h.hy.1
  obtain ⟨⟨a0, b0⟩, ⟨a1, b1⟩, ⟨a2, b2⟩, ⟨a3, b3⟩, ⟨a4, b4⟩, ⟨a5, b5⟩, b6⟩ := h.1.2.2.2.2.2.o
  refine h.sp (fun a j _ q => up_ne (by omega)) (fun j => up_ne (by omega)) (fun a j _ _ q => up_ne (by omega)) (wu_5 h.hy.1 (by decide)) (up_ne (by omega)) (by rw [up_ne (by omega), up_ne (by omega)]; exact h.hy.2.1) ⟨h.1.1.of (fun j => up_ne (by omega)) ⟨up_ne (by omega), up_ne (by omega), up_ne (by omega)⟩, h.1.2.1.of (fun a j q0 q1 => up_ne (by omega)) (fun j q => up_ne (by omega)) (by omega) (by omega), h.1.2.2.1.of (wr_a h.hy.1) (fun a j q0 q1 => up_ne (by omega)) (fun j q => up_ne (by omega)) (by rw [up_ne (by omega)]; exact Int.le_refl _) (by rw [up_ne (by omega)]; exact Int.le_refl _), h.1.2.2.2.1.of (by omega) (fun a j q0 q1 => up_ne (by omega)) (fun j q => up_ne (by omega)), h.1.2.2.2.2.1.of (by omega) (fun a j q0 q1 => up_ne (by omega)) (fun j q => up_ne (by omega)) (by rw [up_ne (by omega)]; exact Int.le_refl _), ?_⟩
  exact rlL.mk ⟨by rw [up_ne (by omega), up_ne (by omega)]; exact a0, fun i g0 g1 => by rw [up_ne (by omega)] at g1; have b := b0 i g0 g1; simp (disch := omega) only [up_ne, up_eq]; exact b⟩ ⟨(up_eq ⟨rfl, rfl⟩).trans (up_eq ⟨rfl, rfl⟩).symm, fun i g0 g1 => by rw [up_eq ⟨rfl, rfl⟩] at g1; omega⟩ ⟨by rw [up_ne (by omega), up_ne (by omega)]; exact a2, fun i g0 g1 => by rw [up_ne (by omega)] at g1; have b := b2 i g0 g1; simp (disch := omega) only [up_ne, up_eq]; exact b⟩ ⟨by rw [up_ne (by omega), up_ne (by omega)]; exact a3, fun i g0 g1 => by rw [up_ne (by omega)] at g1; have b := b3 i g0 g1; simp (disch := omega) only [up_ne, up_eq]; exact b⟩ ⟨by rw [up_ne (by omega), up_ne (by omega)]; exact a4, fun i g0 g1 => by rw [up_ne (by omega)] at g1; have b := b4 i g0 g1; simp (disch := omega) only [up_ne, up_eq]; exact b⟩ ⟨by rw [up_ne (by omega), up_ne (by omega)]; exact a5, fun i g0 g1 => by rw [up_ne (by omega)] at g1; have b := b5 i g0 g1; simp (disch := omega) only [up_ne, up_eq]; exact b⟩ (fun j g0 g1 => by rw [up_ne (by omega)]; exact b6 j g0 g1)
set_option maxHeartbeats 1000000 in
theorem rl_aboard {C A : Me} (h : rlR C A) {n u v w : Int} (hn : A 430 5 = n) (hn8 : n < 8) (hu : 0 ≤ u ∧ u ≤ 99) : rlR (up (up (up (up C 220 n u) 221 n v) 222 n w) 219 0 (n + 1)) (up (up A 430 (130 + n) u) 430 5 (n + 1)) := by
  have w0 := wa_0 h.hy.1
  have w1 := wa_1 h.hy.1
  have w14 := wa_14 h.hy.1
  have w4 := wa_4 h.hy.1
  have w5 := wa_5 h.hy.1
  have w6 := wa_6 h.hy.1
  have w7 := wa_7 h.hy.1
  have w8 := wa_8 h.hy.1
  have w9 := wa_9 h.hy.1
  obtain ⟨⟨a0, b0⟩, ⟨a1, b1⟩, ⟨a2, b2⟩, ⟨a3, b3⟩, ⟨a4, b4⟩, ⟨a5, b5⟩, b6⟩ := h.1.2.2.2.2.2.o
  refine h.sp (fun a j _ q => (up_ne (by omega)).trans ((up_ne (by omega)).trans ((up_ne (by omega)).trans (up_ne (by omega))))) (fun j => (up_ne (by omega)).trans ((up_ne (by omega)).trans ((up_ne (by omega)).trans (up_ne (by omega))))) (fun a j _ _ q => (up_ne (by omega)).trans (up_ne (by omega))) (wu_5 (xb_0 h.hy.1 (c := n) (by omega) hu) (by omega)) ((up_ne (by omega)).trans (up_ne (by omega))) (by simp (disch := omega) only [up_ne, up_eq]; exact h.hy.2.1) ⟨h.1.1.of (fun j => (up_ne (by omega)).trans ((up_ne (by omega)).trans ((up_ne (by omega)).trans (up_ne (by omega))))) ⟨(up_ne (by omega)).trans (up_ne (by omega)), (up_ne (by omega)).trans (up_ne (by omega)), (up_ne (by omega)).trans (up_ne (by omega))⟩, h.1.2.1.of (fun a j q0 q1 => (up_ne (by omega)).trans ((up_ne (by omega)).trans ((up_ne (by omega)).trans (up_ne (by omega))))) (fun j q => (up_ne (by omega)).trans (up_ne (by omega))) (by omega) (by omega), h.1.2.2.1.of (wr_a h.hy.1) (fun a j q0 q1 => (up_ne (by omega)).trans ((up_ne (by omega)).trans ((up_ne (by omega)).trans (up_ne (by omega))))) (fun j q => (up_ne (by omega)).trans (up_ne (by omega))) (by rw [(up_ne (by omega)).trans (up_ne (by omega))]; exact Int.le_refl _) (by rw [(up_ne (by omega)).trans (up_ne (by omega))]; exact Int.le_refl _), h.1.2.2.2.1.of (by omega) (fun a j q0 q1 => (up_ne (by omega)).trans ((up_ne (by omega)).trans ((up_ne (by omega)).trans (up_ne (by omega))))) (fun j q => (up_ne (by omega)).trans (up_ne (by omega))), h.1.2.2.2.2.1.of (by omega) (fun a j q0 q1 => (up_ne (by omega)).trans ((up_ne (by omega)).trans ((up_ne (by omega)).trans (up_ne (by omega))))) (fun j q => (up_ne (by omega)).trans (up_ne (by omega))) (by rw [(up_ne (by omega)).trans (up_ne (by omega))]; exact Int.le_refl _), ?_⟩
  exact rlL.mk ⟨by simp (disch := omega) only [up_ne, up_eq]; exact a0, fun i g0 g1 => by simp (disch := omega) only [up_ne, up_eq] at g1; have b := b0 i g0 g1; simp (disch := omega) only [up_ne, up_eq]; exact b⟩ ⟨(up_eq ⟨rfl, rfl⟩).trans (up_eq ⟨rfl, rfl⟩).symm, fun i g0 g1 => by
    rw [up_eq ⟨rfl, rfl⟩] at g1
    by_cases e : i = n
    · subst e; simp (disch := omega) only [up_ne, up_eq]; first | done | (exact ⟨⟨trivial, hu.2⟩, trivial⟩) | (exact hu.1) | (exact ⟨trivial, hu.1⟩) | (simp only [true_and, and_true]; first | done | exact hu.2 | exact hu.1)
    · have b := b1 i g0 (by omega)
      simp (disch := omega) only [up_ne, up_eq]; exact b⟩ ⟨by simp (disch := omega) only [up_ne, up_eq]; exact a2, fun i g0 g1 => by simp (disch := omega) only [up_ne, up_eq] at g1; have b := b2 i g0 g1; simp (disch := omega) only [up_ne, up_eq]; exact b⟩ ⟨by simp (disch := omega) only [up_ne, up_eq]; exact a3, fun i g0 g1 => by simp (disch := omega) only [up_ne, up_eq] at g1; have b := b3 i g0 g1; simp (disch := omega) only [up_ne, up_eq]; exact b⟩ ⟨by simp (disch := omega) only [up_ne, up_eq]; exact a4, fun i g0 g1 => by simp (disch := omega) only [up_ne, up_eq] at g1; have b := b4 i g0 g1; simp (disch := omega) only [up_ne, up_eq]; exact b⟩ ⟨by simp (disch := omega) only [up_ne, up_eq]; exact a5, fun i g0 g1 => by simp (disch := omega) only [up_ne, up_eq] at g1; have b := b5 i g0 g1; simp (disch := omega) only [up_ne, up_eq]; exact b⟩ (fun j g0 g1 => by simp (disch := omega) only [up_ne, up_eq]; exact b6 j g0 g1)
theorem rl_eseam {C A : Me} (h : rlR C A) : rlR (up C 223 0 0) (up A 430 6 0) := by
  have w0 := wa_0 h.hy.1
  have w1 := wa_1 h.hy.1
  have w14 := wa_14 h.hy.1
  have w4 := wa_4 h.hy.1
  have w5 := wa_5 h.hy.1
  have w6 := wa_6 h.hy.1
  have w7 := wa_7 h.hy.1
  have w8 := wa_8 h.hy.1
  have w9 := wa_9 h.hy.1
  obtain ⟨⟨a0, b0⟩, ⟨a1, b1⟩, ⟨a2, b2⟩, ⟨a3, b3⟩, ⟨a4, b4⟩, ⟨a5, b5⟩, b6⟩ := h.1.2.2.2.2.2.o
  refine h.sp (fun a j _ q => up_ne (by omega)) (fun j => up_ne (by omega)) (fun a j _ _ q => up_ne (by omega)) (wu_6 h.hy.1 (by decide)) (up_ne (by omega)) (by rw [up_ne (by omega), up_ne (by omega)]; exact h.hy.2.1) ⟨h.1.1.of (fun j => up_ne (by omega)) ⟨up_ne (by omega), up_ne (by omega), up_ne (by omega)⟩, h.1.2.1.of (fun a j q0 q1 => up_ne (by omega)) (fun j q => up_ne (by omega)) (by omega) (by omega), h.1.2.2.1.of (wr_a h.hy.1) (fun a j q0 q1 => up_ne (by omega)) (fun j q => up_ne (by omega)) (by rw [up_ne (by omega)]; exact Int.le_refl _) (by rw [up_ne (by omega)]; exact Int.le_refl _), h.1.2.2.2.1.of (by omega) (fun a j q0 q1 => up_ne (by omega)) (fun j q => up_ne (by omega)), h.1.2.2.2.2.1.of (by omega) (fun a j q0 q1 => up_ne (by omega)) (fun j q => up_ne (by omega)) (by rw [up_ne (by omega)]; exact Int.le_refl _), ?_⟩
  exact rlL.mk ⟨by rw [up_ne (by omega), up_ne (by omega)]; exact a0, fun i g0 g1 => by rw [up_ne (by omega)] at g1; have b := b0 i g0 g1; simp (disch := omega) only [up_ne, up_eq]; exact b⟩ ⟨by rw [up_ne (by omega), up_ne (by omega)]; exact a1, fun i g0 g1 => by rw [up_ne (by omega)] at g1; have b := b1 i g0 g1; simp (disch := omega) only [up_ne, up_eq]; exact b⟩ ⟨(up_eq ⟨rfl, rfl⟩).trans (up_eq ⟨rfl, rfl⟩).symm, fun i g0 g1 => by rw [up_eq ⟨rfl, rfl⟩] at g1; omega⟩ ⟨by rw [up_ne (by omega), up_ne (by omega)]; exact a3, fun i g0 g1 => by rw [up_ne (by omega)] at g1; have b := b3 i g0 g1; simp (disch := omega) only [up_ne, up_eq]; exact b⟩ ⟨by rw [up_ne (by omega), up_ne (by omega)]; exact a4, fun i g0 g1 => by rw [up_ne (by omega)] at g1; have b := b4 i g0 g1; simp (disch := omega) only [up_ne, up_eq]; exact b⟩ ⟨by rw [up_ne (by omega), up_ne (by omega)]; exact a5, fun i g0 g1 => by rw [up_ne (by omega)] at g1; have b := b5 i g0 g1; simp (disch := omega) only [up_ne, up_eq]; exact b⟩ (fun j g0 g1 => by rw [up_ne (by omega)]; exact b6 j g0 g1)
set_option maxHeartbeats 1000000 in
theorem rl_aseam {C A : Me} (h : rlR C A) {n u v w : Int} (hn : A 430 6 = n) (hn8 : n < 8) (hu : 0 ≤ u ∧ u ≤ 99) (hv : 0 ≤ v ∧ v ≤ 99) (hw : 0 ≤ w ∧ w ≤ 999) : rlR (up (up (up (up C 224 n u) 225 n v) 226 n w) 223 0 (n + 1)) (up (up (up (up A 430 (138 + 3 * n) u) 430 (138 + 3 * n + 1) v) 430 (138 + 3 * n + 2) w) 430 6 (n + 1)) := by
  have w0 := wa_0 h.hy.1
  have w1 := wa_1 h.hy.1
  have w14 := wa_14 h.hy.1
  have w4 := wa_4 h.hy.1
  have w5 := wa_5 h.hy.1
  have w6 := wa_6 h.hy.1
  have w7 := wa_7 h.hy.1
  have w8 := wa_8 h.hy.1
  have w9 := wa_9 h.hy.1
  obtain ⟨⟨a0, b0⟩, ⟨a1, b1⟩, ⟨a2, b2⟩, ⟨a3, b3⟩, ⟨a4, b4⟩, ⟨a5, b5⟩, b6⟩ := h.1.2.2.2.2.2.o
  refine h.sp (fun a j _ q => (up_ne (by omega)).trans ((up_ne (by omega)).trans ((up_ne (by omega)).trans (up_ne (by omega))))) (fun j => (up_ne (by omega)).trans ((up_ne (by omega)).trans ((up_ne (by omega)).trans (up_ne (by omega))))) (fun a j _ _ q => (up_ne (by omega)).trans ((up_ne (by omega)).trans ((up_ne (by omega)).trans (up_ne (by omega))))) (wu_6 (xs_2 (xs_1 (by have q := xs_0 h.hy.1 (c := n) (v := u) (by omega) hu; rwa [Int.add_zero] at q) (c := n) (by omega) hv) (c := n) (by omega) hw) (by omega)) ((up_ne (by omega)).trans ((up_ne (by omega)).trans ((up_ne (by omega)).trans (up_ne (by omega))))) (by simp (disch := omega) only [up_ne, up_eq]; exact h.hy.2.1) ⟨h.1.1.of (fun j => (up_ne (by omega)).trans ((up_ne (by omega)).trans ((up_ne (by omega)).trans (up_ne (by omega))))) ⟨(up_ne (by omega)).trans ((up_ne (by omega)).trans ((up_ne (by omega)).trans (up_ne (by omega)))), (up_ne (by omega)).trans ((up_ne (by omega)).trans ((up_ne (by omega)).trans (up_ne (by omega)))), (up_ne (by omega)).trans ((up_ne (by omega)).trans ((up_ne (by omega)).trans (up_ne (by omega))))⟩, h.1.2.1.of (fun a j q0 q1 => (up_ne (by omega)).trans ((up_ne (by omega)).trans ((up_ne (by omega)).trans (up_ne (by omega))))) (fun j q => (up_ne (by omega)).trans ((up_ne (by omega)).trans ((up_ne (by omega)).trans (up_ne (by omega))))) (by omega) (by omega), h.1.2.2.1.of (wr_a h.hy.1) (fun a j q0 q1 => (up_ne (by omega)).trans ((up_ne (by omega)).trans ((up_ne (by omega)).trans (up_ne (by omega))))) (fun j q => (up_ne (by omega)).trans ((up_ne (by omega)).trans ((up_ne (by omega)).trans (up_ne (by omega))))) (by rw [(up_ne (by omega)).trans ((up_ne (by omega)).trans ((up_ne (by omega)).trans (up_ne (by omega))))]; exact Int.le_refl _) (by rw [(up_ne (by omega)).trans ((up_ne (by omega)).trans ((up_ne (by omega)).trans (up_ne (by omega))))]; exact Int.le_refl _), h.1.2.2.2.1.of (by omega) (fun a j q0 q1 => (up_ne (by omega)).trans ((up_ne (by omega)).trans ((up_ne (by omega)).trans (up_ne (by omega))))) (fun j q => (up_ne (by omega)).trans ((up_ne (by omega)).trans ((up_ne (by omega)).trans (up_ne (by omega))))), h.1.2.2.2.2.1.of (by omega) (fun a j q0 q1 => (up_ne (by omega)).trans ((up_ne (by omega)).trans ((up_ne (by omega)).trans (up_ne (by omega))))) (fun j q => (up_ne (by omega)).trans ((up_ne (by omega)).trans ((up_ne (by omega)).trans (up_ne (by omega))))) (by rw [(up_ne (by omega)).trans ((up_ne (by omega)).trans ((up_ne (by omega)).trans (up_ne (by omega))))]; exact Int.le_refl _), ?_⟩
  exact rlL.mk ⟨by simp (disch := omega) only [up_ne, up_eq]; exact a0, fun i g0 g1 => by simp (disch := omega) only [up_ne, up_eq] at g1; have b := b0 i g0 g1; simp (disch := omega) only [up_ne, up_eq]; exact b⟩ ⟨by simp (disch := omega) only [up_ne, up_eq]; exact a1, fun i g0 g1 => by simp (disch := omega) only [up_ne, up_eq] at g1; have b := b1 i g0 g1; simp (disch := omega) only [up_ne, up_eq]; exact b⟩ ⟨(up_eq ⟨rfl, rfl⟩).trans (up_eq ⟨rfl, rfl⟩).symm, fun i g0 g1 => by
    rw [up_eq ⟨rfl, rfl⟩] at g1
    by_cases e : i = n
    · subst e; simp (disch := omega) only [up_ne, up_eq]; first | done | (exact ⟨⟨trivial, hu.2⟩, trivial⟩) | (exact hu.1) | (exact ⟨trivial, hu.1⟩) | (simp only [true_and, and_true]; first | done | exact hu.2 | exact hu.1)
    · have b := b2 i g0 (by omega)
      simp (disch := omega) only [up_ne, up_eq]; exact b⟩ ⟨by simp (disch := omega) only [up_ne, up_eq]; exact a3, fun i g0 g1 => by simp (disch := omega) only [up_ne, up_eq] at g1; have b := b3 i g0 g1; simp (disch := omega) only [up_ne, up_eq]; exact b⟩ ⟨by simp (disch := omega) only [up_ne, up_eq]; exact a4, fun i g0 g1 => by simp (disch := omega) only [up_ne, up_eq] at g1; have b := b4 i g0 g1; simp (disch := omega) only [up_ne, up_eq]; exact b⟩ ⟨by simp (disch := omega) only [up_ne, up_eq]; exact a5, fun i g0 g1 => by simp (disch := omega) only [up_ne, up_eq] at g1; have b := b5 i g0 g1; simp (disch := omega) only [up_ne, up_eq]; exact b⟩ (fun j g0 g1 => by
    by_cases e : j = n
    · subst e; simp (disch := omega) only [up_ne, up_eq]; exact hw
    · simp (disch := omega) only [up_ne, up_eq]; exact b6 j g0 g1)
theorem rl_eheir {C A : Me} (h : rlR C A) : rlR (up C 227 0 0) (up A 430 7 0) := by
  have w0 := wa_0 h.hy.1
  have w1 := wa_1 h.hy.1
  have w14 := wa_14 h.hy.1
  have w4 := wa_4 h.hy.1
  have w5 := wa_5 h.hy.1
  have w6 := wa_6 h.hy.1
  have w7 := wa_7 h.hy.1
  have w8 := wa_8 h.hy.1
  have w9 := wa_9 h.hy.1
  obtain ⟨⟨a0, b0⟩, ⟨a1, b1⟩, ⟨a2, b2⟩, ⟨a3, b3⟩, ⟨a4, b4⟩, ⟨a5, b5⟩, b6⟩ := h.1.2.2.2.2.2.o
  refine h.sp (fun a j _ q => up_ne (by omega)) (fun j => up_ne (by omega)) (fun a j _ _ q => up_ne (by omega)) (wu_7 h.hy.1 (by decide)) (up_ne (by omega)) (by rw [up_ne (by omega), up_ne (by omega)]; exact h.hy.2.1) ⟨h.1.1.of (fun j => up_ne (by omega)) ⟨up_ne (by omega), up_ne (by omega), up_ne (by omega)⟩, h.1.2.1.of (fun a j q0 q1 => up_ne (by omega)) (fun j q => up_ne (by omega)) (by omega) (by omega), h.1.2.2.1.of (wr_a h.hy.1) (fun a j q0 q1 => up_ne (by omega)) (fun j q => up_ne (by omega)) (by rw [up_ne (by omega)]; exact Int.le_refl _) (by rw [up_ne (by omega)]; exact Int.le_refl _), h.1.2.2.2.1.of (by omega) (fun a j q0 q1 => up_ne (by omega)) (fun j q => up_ne (by omega)), h.1.2.2.2.2.1.of (by omega) (fun a j q0 q1 => up_ne (by omega)) (fun j q => up_ne (by omega)) (by rw [up_ne (by omega)]; exact Int.le_refl _), ?_⟩
  exact rlL.mk ⟨by rw [up_ne (by omega), up_ne (by omega)]; exact a0, fun i g0 g1 => by rw [up_ne (by omega)] at g1; have b := b0 i g0 g1; simp (disch := omega) only [up_ne, up_eq]; exact b⟩ ⟨by rw [up_ne (by omega), up_ne (by omega)]; exact a1, fun i g0 g1 => by rw [up_ne (by omega)] at g1; have b := b1 i g0 g1; simp (disch := omega) only [up_ne, up_eq]; exact b⟩ ⟨by rw [up_ne (by omega), up_ne (by omega)]; exact a2, fun i g0 g1 => by rw [up_ne (by omega)] at g1; have b := b2 i g0 g1; simp (disch := omega) only [up_ne, up_eq]; exact b⟩ ⟨(up_eq ⟨rfl, rfl⟩).trans (up_eq ⟨rfl, rfl⟩).symm, fun i g0 g1 => by rw [up_eq ⟨rfl, rfl⟩] at g1; omega⟩ ⟨by rw [up_ne (by omega), up_ne (by omega)]; exact a4, fun i g0 g1 => by rw [up_ne (by omega)] at g1; have b := b4 i g0 g1; simp (disch := omega) only [up_ne, up_eq]; exact b⟩ ⟨by rw [up_ne (by omega), up_ne (by omega)]; exact a5, fun i g0 g1 => by rw [up_ne (by omega)] at g1; have b := b5 i g0 g1; simp (disch := omega) only [up_ne, up_eq]; exact b⟩ (fun j g0 g1 => by rw [up_ne (by omega)]; exact b6 j g0 g1)
set_option maxHeartbeats 1000000 in
theorem rl_aheir {C A : Me} (h : rlR C A) {n u v w : Int} (hn : A 430 7 = n) (hn8 : n < 6) (hu : 1 ≤ u ∧ u ≤ 999) : rlR (up (up (up (up C 228 n u) 229 n v) 230 n w) 227 0 (n + 1)) (up (up A 430 (162 + n) u) 430 7 (n + 1)) := by
  have w0 := wa_0 h.hy.1
  have w1 := wa_1 h.hy.1
  have w14 := wa_14 h.hy.1
  have w4 := wa_4 h.hy.1
  have w5 := wa_5 h.hy.1
  have w6 := wa_6 h.hy.1
  have w7 := wa_7 h.hy.1
  have w8 := wa_8 h.hy.1
  have w9 := wa_9 h.hy.1
  obtain ⟨⟨a0, b0⟩, ⟨a1, b1⟩, ⟨a2, b2⟩, ⟨a3, b3⟩, ⟨a4, b4⟩, ⟨a5, b5⟩, b6⟩ := h.1.2.2.2.2.2.o
  refine h.sp (fun a j _ q => (up_ne (by omega)).trans ((up_ne (by omega)).trans ((up_ne (by omega)).trans (up_ne (by omega))))) (fun j => (up_ne (by omega)).trans ((up_ne (by omega)).trans ((up_ne (by omega)).trans (up_ne (by omega))))) (fun a j _ _ q => (up_ne (by omega)).trans (up_ne (by omega))) (wu_7 (xh_0 h.hy.1 (c := n) (by omega) (by omega)) (by omega)) ((up_ne (by omega)).trans (up_ne (by omega))) (by simp (disch := omega) only [up_ne, up_eq]; exact h.hy.2.1) ⟨h.1.1.of (fun j => (up_ne (by omega)).trans ((up_ne (by omega)).trans ((up_ne (by omega)).trans (up_ne (by omega))))) ⟨(up_ne (by omega)).trans (up_ne (by omega)), (up_ne (by omega)).trans (up_ne (by omega)), (up_ne (by omega)).trans (up_ne (by omega))⟩, h.1.2.1.of (fun a j q0 q1 => (up_ne (by omega)).trans ((up_ne (by omega)).trans ((up_ne (by omega)).trans (up_ne (by omega))))) (fun j q => (up_ne (by omega)).trans (up_ne (by omega))) (by omega) (by omega), h.1.2.2.1.of (wr_a h.hy.1) (fun a j q0 q1 => (up_ne (by omega)).trans ((up_ne (by omega)).trans ((up_ne (by omega)).trans (up_ne (by omega))))) (fun j q => (up_ne (by omega)).trans (up_ne (by omega))) (by rw [(up_ne (by omega)).trans (up_ne (by omega))]; exact Int.le_refl _) (by rw [(up_ne (by omega)).trans (up_ne (by omega))]; exact Int.le_refl _), h.1.2.2.2.1.of (by omega) (fun a j q0 q1 => (up_ne (by omega)).trans ((up_ne (by omega)).trans ((up_ne (by omega)).trans (up_ne (by omega))))) (fun j q => (up_ne (by omega)).trans (up_ne (by omega))), h.1.2.2.2.2.1.of (by omega) (fun a j q0 q1 => (up_ne (by omega)).trans ((up_ne (by omega)).trans ((up_ne (by omega)).trans (up_ne (by omega))))) (fun j q => (up_ne (by omega)).trans (up_ne (by omega))) (by rw [(up_ne (by omega)).trans (up_ne (by omega))]; exact Int.le_refl _), ?_⟩
  exact rlL.mk ⟨by simp (disch := omega) only [up_ne, up_eq]; exact a0, fun i g0 g1 => by simp (disch := omega) only [up_ne, up_eq] at g1; have b := b0 i g0 g1; simp (disch := omega) only [up_ne, up_eq]; exact b⟩ ⟨by simp (disch := omega) only [up_ne, up_eq]; exact a1, fun i g0 g1 => by simp (disch := omega) only [up_ne, up_eq] at g1; have b := b1 i g0 g1; simp (disch := omega) only [up_ne, up_eq]; exact b⟩ ⟨by simp (disch := omega) only [up_ne, up_eq]; exact a2, fun i g0 g1 => by simp (disch := omega) only [up_ne, up_eq] at g1; have b := b2 i g0 g1; simp (disch := omega) only [up_ne, up_eq]; exact b⟩ ⟨(up_eq ⟨rfl, rfl⟩).trans (up_eq ⟨rfl, rfl⟩).symm, fun i g0 g1 => by
    rw [up_eq ⟨rfl, rfl⟩] at g1
    by_cases e : i = n
    · subst e; simp (disch := omega) only [up_ne, up_eq]; first | done | (exact ⟨⟨trivial, hu.2⟩, trivial⟩) | (exact hu.1) | (exact ⟨trivial, hu.1⟩) | (simp only [true_and, and_true]; first | done | exact hu.2 | exact hu.1)
    · have b := b3 i g0 (by omega)
      simp (disch := omega) only [up_ne, up_eq]; exact b⟩ ⟨by simp (disch := omega) only [up_ne, up_eq]; exact a4, fun i g0 g1 => by simp (disch := omega) only [up_ne, up_eq] at g1; have b := b4 i g0 g1; simp (disch := omega) only [up_ne, up_eq]; exact b⟩ ⟨by simp (disch := omega) only [up_ne, up_eq]; exact a5, fun i g0 g1 => by simp (disch := omega) only [up_ne, up_eq] at g1; have b := b5 i g0 g1; simp (disch := omega) only [up_ne, up_eq]; exact b⟩ (fun j g0 g1 => by simp (disch := omega) only [up_ne, up_eq]; exact b6 j g0 g1)
theorem rl_eoffer {C A : Me} (h : rlR C A) : rlR (up C 231 0 0) (up A 430 8 0) := by
  have w0 := wa_0 h.hy.1
  have w1 := wa_1 h.hy.1
  have w14 := wa_14 h.hy.1
  have w4 := wa_4 h.hy.1
  have w5 := wa_5 h.hy.1
  have w6 := wa_6 h.hy.1
  have w7 := wa_7 h.hy.1
  have w8 := wa_8 h.hy.1
  have w9 := wa_9 h.hy.1
  obtain ⟨⟨a0, b0⟩, ⟨a1, b1⟩, ⟨a2, b2⟩, ⟨a3, b3⟩, ⟨a4, b4⟩, ⟨a5, b5⟩, b6⟩ := h.1.2.2.2.2.2.o
  refine h.sp (fun a j _ q => up_ne (by omega)) (fun j => up_ne (by omega)) (fun a j _ _ q => up_ne (by omega)) (wu_8 h.hy.1 (by decide)) (up_ne (by omega)) (by rw [up_ne (by omega), up_ne (by omega)]; exact h.hy.2.1) ⟨h.1.1.of (fun j => up_ne (by omega)) ⟨up_ne (by omega), up_ne (by omega), up_ne (by omega)⟩, h.1.2.1.of (fun a j q0 q1 => up_ne (by omega)) (fun j q => up_ne (by omega)) (by omega) (by omega), h.1.2.2.1.of (wr_a h.hy.1) (fun a j q0 q1 => up_ne (by omega)) (fun j q => up_ne (by omega)) (by rw [up_ne (by omega)]; exact Int.le_refl _) (by rw [up_ne (by omega)]; exact Int.le_refl _), h.1.2.2.2.1.of (by omega) (fun a j q0 q1 => up_ne (by omega)) (fun j q => up_ne (by omega)), h.1.2.2.2.2.1.of (by omega) (fun a j q0 q1 => up_ne (by omega)) (fun j q => up_ne (by omega)) (by rw [up_ne (by omega)]; exact Int.le_refl _), ?_⟩
  exact rlL.mk ⟨by rw [up_ne (by omega), up_ne (by omega)]; exact a0, fun i g0 g1 => by rw [up_ne (by omega)] at g1; have b := b0 i g0 g1; simp (disch := omega) only [up_ne, up_eq]; exact b⟩ ⟨by rw [up_ne (by omega), up_ne (by omega)]; exact a1, fun i g0 g1 => by rw [up_ne (by omega)] at g1; have b := b1 i g0 g1; simp (disch := omega) only [up_ne, up_eq]; exact b⟩ ⟨by rw [up_ne (by omega), up_ne (by omega)]; exact a2, fun i g0 g1 => by rw [up_ne (by omega)] at g1; have b := b2 i g0 g1; simp (disch := omega) only [up_ne, up_eq]; exact b⟩ ⟨by rw [up_ne (by omega), up_ne (by omega)]; exact a3, fun i g0 g1 => by rw [up_ne (by omega)] at g1; have b := b3 i g0 g1; simp (disch := omega) only [up_ne, up_eq]; exact b⟩ ⟨(up_eq ⟨rfl, rfl⟩).trans (up_eq ⟨rfl, rfl⟩).symm, fun i g0 g1 => by rw [up_eq ⟨rfl, rfl⟩] at g1; omega⟩ ⟨by rw [up_ne (by omega), up_ne (by omega)]; exact a5, fun i g0 g1 => by rw [up_ne (by omega)] at g1; have b := b5 i g0 g1; simp (disch := omega) only [up_ne, up_eq]; exact b⟩ (fun j g0 g1 => by rw [up_ne (by omega)]; exact b6 j g0 g1)
set_option maxHeartbeats 1000000 in
theorem rl_aoffer {C A : Me} (h : rlR C A) {n u v w : Int} (hn : A 430 8 = n) (hn8 : n < 8) (hu : 0 ≤ u ∧ u ≤ 999) : rlR (up (up (up (up C 232 n u) 233 n v) 234 n w) 231 0 (n + 1)) (up (up A 430 (168 + n) u) 430 8 (n + 1)) := by
  have w0 := wa_0 h.hy.1
  have w1 := wa_1 h.hy.1
  have w14 := wa_14 h.hy.1
  have w4 := wa_4 h.hy.1
  have w5 := wa_5 h.hy.1
  have w6 := wa_6 h.hy.1
  have w7 := wa_7 h.hy.1
  have w8 := wa_8 h.hy.1
  have w9 := wa_9 h.hy.1
  obtain ⟨⟨a0, b0⟩, ⟨a1, b1⟩, ⟨a2, b2⟩, ⟨a3, b3⟩, ⟨a4, b4⟩, ⟨a5, b5⟩, b6⟩ := h.1.2.2.2.2.2.o
  refine h.sp (fun a j _ q => (up_ne (by omega)).trans ((up_ne (by omega)).trans ((up_ne (by omega)).trans (up_ne (by omega))))) (fun j => (up_ne (by omega)).trans ((up_ne (by omega)).trans ((up_ne (by omega)).trans (up_ne (by omega))))) (fun a j _ _ q => (up_ne (by omega)).trans (up_ne (by omega))) (wu_8 (xo_0 h.hy.1 (c := n) (by omega) hu) (by omega)) ((up_ne (by omega)).trans (up_ne (by omega))) (by simp (disch := omega) only [up_ne, up_eq]; exact h.hy.2.1) ⟨h.1.1.of (fun j => (up_ne (by omega)).trans ((up_ne (by omega)).trans ((up_ne (by omega)).trans (up_ne (by omega))))) ⟨(up_ne (by omega)).trans (up_ne (by omega)), (up_ne (by omega)).trans (up_ne (by omega)), (up_ne (by omega)).trans (up_ne (by omega))⟩, h.1.2.1.of (fun a j q0 q1 => (up_ne (by omega)).trans ((up_ne (by omega)).trans ((up_ne (by omega)).trans (up_ne (by omega))))) (fun j q => (up_ne (by omega)).trans (up_ne (by omega))) (by omega) (by omega), h.1.2.2.1.of (wr_a h.hy.1) (fun a j q0 q1 => (up_ne (by omega)).trans ((up_ne (by omega)).trans ((up_ne (by omega)).trans (up_ne (by omega))))) (fun j q => (up_ne (by omega)).trans (up_ne (by omega))) (by rw [(up_ne (by omega)).trans (up_ne (by omega))]; exact Int.le_refl _) (by rw [(up_ne (by omega)).trans (up_ne (by omega))]; exact Int.le_refl _), h.1.2.2.2.1.of (by omega) (fun a j q0 q1 => (up_ne (by omega)).trans ((up_ne (by omega)).trans ((up_ne (by omega)).trans (up_ne (by omega))))) (fun j q => (up_ne (by omega)).trans (up_ne (by omega))), h.1.2.2.2.2.1.of (by omega) (fun a j q0 q1 => (up_ne (by omega)).trans ((up_ne (by omega)).trans ((up_ne (by omega)).trans (up_ne (by omega))))) (fun j q => (up_ne (by omega)).trans (up_ne (by omega))) (by rw [(up_ne (by omega)).trans (up_ne (by omega))]; exact Int.le_refl _), ?_⟩
  exact rlL.mk ⟨by simp (disch := omega) only [up_ne, up_eq]; exact a0, fun i g0 g1 => by simp (disch := omega) only [up_ne, up_eq] at g1; have b := b0 i g0 g1; simp (disch := omega) only [up_ne, up_eq]; exact b⟩ ⟨by simp (disch := omega) only [up_ne, up_eq]; exact a1, fun i g0 g1 => by simp (disch := omega) only [up_ne, up_eq] at g1; have b := b1 i g0 g1; simp (disch := omega) only [up_ne, up_eq]; exact b⟩ ⟨by simp (disch := omega) only [up_ne, up_eq]; exact a2, fun i g0 g1 => by simp (disch := omega) only [up_ne, up_eq] at g1; have b := b2 i g0 g1; simp (disch := omega) only [up_ne, up_eq]; exact b⟩ ⟨by simp (disch := omega) only [up_ne, up_eq]; exact a3, fun i g0 g1 => by simp (disch := omega) only [up_ne, up_eq] at g1; have b := b3 i g0 g1; simp (disch := omega) only [up_ne, up_eq]; exact b⟩ ⟨(up_eq ⟨rfl, rfl⟩).trans (up_eq ⟨rfl, rfl⟩).symm, fun i g0 g1 => by
    rw [up_eq ⟨rfl, rfl⟩] at g1
    by_cases e : i = n
    · subst e; simp (disch := omega) only [up_ne, up_eq]; first | done | (exact ⟨⟨trivial, hu.2⟩, trivial⟩) | (exact hu.1) | (exact ⟨trivial, hu.1⟩) | (simp only [true_and, and_true]; first | done | exact hu.2 | exact hu.1)
    · have b := b4 i g0 (by omega)
      simp (disch := omega) only [up_ne, up_eq]; exact b⟩ ⟨by simp (disch := omega) only [up_ne, up_eq]; exact a5, fun i g0 g1 => by simp (disch := omega) only [up_ne, up_eq] at g1; have b := b5 i g0 g1; simp (disch := omega) only [up_ne, up_eq]; exact b⟩ (fun j g0 g1 => by simp (disch := omega) only [up_ne, up_eq]; exact b6 j g0 g1)
theorem rl_epriced {C A : Me} (h : rlR C A) : rlR (up C 235 0 0) (up A 430 9 0) := by
  have w0 := wa_0 h.hy.1
  have w1 := wa_1 h.hy.1
  have w14 := wa_14 h.hy.1
  have w4 := wa_4 h.hy.1
  have w5 := wa_5 h.hy.1
  have w6 := wa_6 h.hy.1
  have w7 := wa_7 h.hy.1
  have w8 := wa_8 h.hy.1
  have w9 := wa_9 h.hy.1
  obtain ⟨⟨a0, b0⟩, ⟨a1, b1⟩, ⟨a2, b2⟩, ⟨a3, b3⟩, ⟨a4, b4⟩, ⟨a5, b5⟩, b6⟩ := h.1.2.2.2.2.2.o
  refine h.sp (fun a j _ q => up_ne (by omega)) (fun j => up_ne (by omega)) (fun a j _ _ q => up_ne (by omega)) (wu_9 h.hy.1 (by decide)) (up_ne (by omega)) (by rw [up_ne (by omega), up_ne (by omega)]; exact h.hy.2.1) ⟨h.1.1.of (fun j => up_ne (by omega)) ⟨up_ne (by omega), up_ne (by omega), up_ne (by omega)⟩, h.1.2.1.of (fun a j q0 q1 => up_ne (by omega)) (fun j q => up_ne (by omega)) (by omega) (by omega), h.1.2.2.1.of (wr_a h.hy.1) (fun a j q0 q1 => up_ne (by omega)) (fun j q => up_ne (by omega)) (by rw [up_ne (by omega)]; exact Int.le_refl _) (by rw [up_ne (by omega)]; exact Int.le_refl _), h.1.2.2.2.1.of (by omega) (fun a j q0 q1 => up_ne (by omega)) (fun j q => up_ne (by omega)), h.1.2.2.2.2.1.of (by omega) (fun a j q0 q1 => up_ne (by omega)) (fun j q => up_ne (by omega)) (by rw [up_ne (by omega)]; exact Int.le_refl _), ?_⟩
  exact rlL.mk ⟨by rw [up_ne (by omega), up_ne (by omega)]; exact a0, fun i g0 g1 => by rw [up_ne (by omega)] at g1; have b := b0 i g0 g1; simp (disch := omega) only [up_ne, up_eq]; exact b⟩ ⟨by rw [up_ne (by omega), up_ne (by omega)]; exact a1, fun i g0 g1 => by rw [up_ne (by omega)] at g1; have b := b1 i g0 g1; simp (disch := omega) only [up_ne, up_eq]; exact b⟩ ⟨by rw [up_ne (by omega), up_ne (by omega)]; exact a2, fun i g0 g1 => by rw [up_ne (by omega)] at g1; have b := b2 i g0 g1; simp (disch := omega) only [up_ne, up_eq]; exact b⟩ ⟨by rw [up_ne (by omega), up_ne (by omega)]; exact a3, fun i g0 g1 => by rw [up_ne (by omega)] at g1; have b := b3 i g0 g1; simp (disch := omega) only [up_ne, up_eq]; exact b⟩ ⟨by rw [up_ne (by omega), up_ne (by omega)]; exact a4, fun i g0 g1 => by rw [up_ne (by omega)] at g1; have b := b4 i g0 g1; simp (disch := omega) only [up_ne, up_eq]; exact b⟩ ⟨(up_eq ⟨rfl, rfl⟩).trans (up_eq ⟨rfl, rfl⟩).symm, fun i g0 g1 => by rw [up_eq ⟨rfl, rfl⟩] at g1; omega⟩ (fun j g0 g1 => by rw [up_ne (by omega)]; exact b6 j g0 g1)
set_option maxHeartbeats 1000000 in
theorem rl_apriced {C A : Me} (h : rlR C A) {n u v w : Int} (hn : A 430 9 = n) (hn8 : n < 8) (hu : 0 ≤ u ∧ u < A 430 14) (hv : 0 ≤ v ∧ v ≤ 9999) : rlR (up (up (up (up C 236 n u) 237 n v) 238 n w) 235 0 (n + 1)) (up (up (up A 430 (176 + 2 * n) u) 430 (176 + 2 * n + 1) v) 430 9 (n + 1)) := by
  have w0 := wa_0 h.hy.1
  have w1 := wa_1 h.hy.1
  have w14 := wa_14 h.hy.1
  have w4 := wa_4 h.hy.1
  have w5 := wa_5 h.hy.1
  have w6 := wa_6 h.hy.1
  have w7 := wa_7 h.hy.1
  have w8 := wa_8 h.hy.1
  have w9 := wa_9 h.hy.1
  obtain ⟨⟨a0, b0⟩, ⟨a1, b1⟩, ⟨a2, b2⟩, ⟨a3, b3⟩, ⟨a4, b4⟩, ⟨a5, b5⟩, b6⟩ := h.1.2.2.2.2.2.o
  refine h.sp (fun a j _ q => (up_ne (by omega)).trans ((up_ne (by omega)).trans ((up_ne (by omega)).trans (up_ne (by omega))))) (fun j => (up_ne (by omega)).trans ((up_ne (by omega)).trans ((up_ne (by omega)).trans (up_ne (by omega))))) (fun a j _ _ q => (up_ne (by omega)).trans ((up_ne (by omega)).trans (up_ne (by omega)))) (wu_9 (xd_1 (by have q := xd_0 h.hy.1 (c := n) (v := u) (by omega) (by omega); rwa [Int.add_zero] at q) (c := n) (by omega) hv) (by omega)) ((up_ne (by omega)).trans ((up_ne (by omega)).trans (up_ne (by omega)))) (by simp (disch := omega) only [up_ne, up_eq]; exact h.hy.2.1) ⟨h.1.1.of (fun j => (up_ne (by omega)).trans ((up_ne (by omega)).trans ((up_ne (by omega)).trans (up_ne (by omega))))) ⟨(up_ne (by omega)).trans ((up_ne (by omega)).trans (up_ne (by omega))), (up_ne (by omega)).trans ((up_ne (by omega)).trans (up_ne (by omega))), (up_ne (by omega)).trans ((up_ne (by omega)).trans (up_ne (by omega)))⟩, h.1.2.1.of (fun a j q0 q1 => (up_ne (by omega)).trans ((up_ne (by omega)).trans ((up_ne (by omega)).trans (up_ne (by omega))))) (fun j q => (up_ne (by omega)).trans ((up_ne (by omega)).trans (up_ne (by omega)))) (by omega) (by omega), h.1.2.2.1.of (wr_a h.hy.1) (fun a j q0 q1 => (up_ne (by omega)).trans ((up_ne (by omega)).trans ((up_ne (by omega)).trans (up_ne (by omega))))) (fun j q => (up_ne (by omega)).trans ((up_ne (by omega)).trans (up_ne (by omega)))) (by rw [(up_ne (by omega)).trans ((up_ne (by omega)).trans (up_ne (by omega)))]; exact Int.le_refl _) (by rw [(up_ne (by omega)).trans ((up_ne (by omega)).trans (up_ne (by omega)))]; exact Int.le_refl _), h.1.2.2.2.1.of (by omega) (fun a j q0 q1 => (up_ne (by omega)).trans ((up_ne (by omega)).trans ((up_ne (by omega)).trans (up_ne (by omega))))) (fun j q => (up_ne (by omega)).trans ((up_ne (by omega)).trans (up_ne (by omega)))), h.1.2.2.2.2.1.of (by omega) (fun a j q0 q1 => (up_ne (by omega)).trans ((up_ne (by omega)).trans ((up_ne (by omega)).trans (up_ne (by omega))))) (fun j q => (up_ne (by omega)).trans ((up_ne (by omega)).trans (up_ne (by omega)))) (by rw [(up_ne (by omega)).trans ((up_ne (by omega)).trans (up_ne (by omega)))]; exact Int.le_refl _), ?_⟩
  exact rlL.mk ⟨by simp (disch := omega) only [up_ne, up_eq]; exact a0, fun i g0 g1 => by simp (disch := omega) only [up_ne, up_eq] at g1; have b := b0 i g0 g1; simp (disch := omega) only [up_ne, up_eq]; exact b⟩ ⟨by simp (disch := omega) only [up_ne, up_eq]; exact a1, fun i g0 g1 => by simp (disch := omega) only [up_ne, up_eq] at g1; have b := b1 i g0 g1; simp (disch := omega) only [up_ne, up_eq]; exact b⟩ ⟨by simp (disch := omega) only [up_ne, up_eq]; exact a2, fun i g0 g1 => by simp (disch := omega) only [up_ne, up_eq] at g1; have b := b2 i g0 g1; simp (disch := omega) only [up_ne, up_eq]; exact b⟩ ⟨by simp (disch := omega) only [up_ne, up_eq]; exact a3, fun i g0 g1 => by simp (disch := omega) only [up_ne, up_eq] at g1; have b := b3 i g0 g1; simp (disch := omega) only [up_ne, up_eq]; exact b⟩ ⟨by simp (disch := omega) only [up_ne, up_eq]; exact a4, fun i g0 g1 => by simp (disch := omega) only [up_ne, up_eq] at g1; have b := b4 i g0 g1; simp (disch := omega) only [up_ne, up_eq]; exact b⟩ ⟨(up_eq ⟨rfl, rfl⟩).trans (up_eq ⟨rfl, rfl⟩).symm, fun i g0 g1 => by
    rw [up_eq ⟨rfl, rfl⟩] at g1
    by_cases e : i = n
    · subst e; simp (disch := omega) only [up_ne, up_eq]; first | done | (exact ⟨⟨trivial, hu.2⟩, trivial⟩) | (exact hu.1) | (exact ⟨trivial, hu.1⟩) | (simp only [true_and, and_true]; first | done | exact hu.2 | exact hu.1)
    · have b := b5 i g0 (by omega)
      simp (disch := omega) only [up_ne, up_eq]; exact b⟩ (fun j g0 g1 => by simp (disch := omega) only [up_ne, up_eq]; exact b6 j g0 g1)
