/-- the reference's cells of the moment that is (but for how many persons and creases there are) -/
abbrev nowA (j : Int) : Prop := j = 10 ∨ j = 11 ∨ j = 12 ∨ (99 ≤ j ∧ j < 114 ∧ (j - 99) % 3 = 0) ∨ (15 ≤ j ∧ j < 99 ∧ (j - 15) % 7 < 2) ∨ 2112 ≤ j
theorem rlR.now {C A C' A' : Me} (h : rlR C A) (hC : ∀ a j : Int, ¬ scrC a → ¬ (50 ≤ a ∧ a ≤ 54) → C' a j = C a j) (h10 : ∀ j : Int, C' 10 j = C 10 j) (hA : ∀ a j : Int, 429 ≤ a → a ≤ 433 → ¬ (a = 430 ∧ nowA j) → A' a j = A a j) (hW : WA A') (hN : rlN C' A' 50 430) : rlR C' A' := by
  obtain ⟨⟨a1, a2, a3, a4, a5, a6⟩, h2, h3, h4, h5, h6, h7, h8, h9⟩ := h
  have w0 := wa_0 h6.1
  have w1 := wa_1 h6.1
  have w14 := wa_14 h6.1
  have e : ∀ a : Int, 429 ≤ a → a ≤ 433 → a ≠ 430 → A' a = A a := fun a q0 q1 q => funext fun j => hA a j q0 q1 (fun w => q w.1)
  have eA : ∀ j : Int, ¬ nowA j → A' 430 j = A 430 j := fun j q => hA 430 j (by decide) (by decide) (fun w => q w.2)
  refine ⟨⟨a1.of (fun j => hC 49 j (by unfold scrC; omega) (by omega)) ⟨eA _ (by unfold nowA; omega), eA _ (by unfold nowA; omega), eA _ (by unfold nowA; omega)⟩, hN,
      a3.of (wr_a h6.1) (fun a j q0 q1 => hC a j (by unfold scrC; omega) (by omega)) (fun j q => eA j (by unfold nowA; omega)) (by rw [eA 0 (by unfold nowA; omega)]; exact Int.le_refl _) (by rw [eA 14 (by unfold nowA; omega)]; exact Int.le_refl _),
      a4.of (by omega) (fun a j q0 q1 => hC a j (by unfold scrC; omega) (by omega)) (fun j q => eA j (by unfold nowA; omega)),
      a5.of (by omega) (fun a j q0 q1 => hC a j (by unfold scrC; omega) (by omega)) (fun j q => eA j (by unfold nowA; omega)) (by rw [eA 0 (by unfold nowA; omega)]; exact Int.le_refl _),
      a6.of (wr_a h6.1) (fun a j q0 q1 => hC a j (by unfold scrC; omega) (by omega)) (fun j q => eA j (by unfold nowA; omega)) (by rw [eA 14 (by unfold nowA; omega)]; exact Int.le_refl _)⟩,
    h2.of (wr_i h7) (fun a j q0 q1 => hC a j (by unfold scrC; omega) (by omega)) (fun j _ _ => hA 431 j (by decide) (by decide) (by omega)) (fun j _ => hA 431 j (by decide) (by decide) (by omega)), ?_, ?_, ?_, ?_⟩
  · unfold rlXs
    rw [eA 1 (by unfold nowA; omega), e 432 (by decide) (by decide) (by decide)]
    exact fun t g0 g1 => (h3 t g0 g1).of (fun a j q0 q1 => hC a j (by unfold scrC; omega) (by omega))
  · obtain ⟨b1, b2, b3, b4⟩ := h4
    unfold rlD
    rw [e 429 (by decide) (by decide) (by decide), e 433 (by decide) (by decide) (by decide), hC 2 0 (by unfold scrC; omega) (by omega), hC 2 1 (by unfold scrC; omega) (by omega), hC 2 2 (by unfold scrC; omega) (by omega)]
    exact ⟨b1, b2, b3, fun j g0 g1 => by rw [hC 3 j (by unfold scrC; omega) (by omega)]; exact b4 j g0 g1⟩
  · refine ⟨fun t g0 g1 => ?_, fun j g0 g1 => by rw [h10 j]; exact h5.2 j g0 g1⟩
    rw [hC (15 + 8 * t) 1 (by unfold scrC; omega) (by omega), hC (15 + 8 * t) 0 (by unfold scrC; omega) (by omega)]
    exact h5.1 t g0 g1
  · refine ⟨h6.of hW (eA 1 (by unfold nowA; omega)) (eA 2 (by unfold nowA; omega)) (e 432 (by decide) (by decide) (by decide)), ?_, ?_, ?_⟩
    · unfold WI; rw [e 431 (by decide) (by decide) (by decide)]; exact h7
    · rw [e 431 (by decide) (by decide) (by decide), eA 1 (by unfold nowA; omega)]; exact h8
    · rw [e 431 (by decide) (by decide) (by decide)]; exact h9
theorem rlR.hy {C A : Me} (h : rlR C A) : HY A := h.2.2.2.2.2.1
theorem rlR.sc {C A : Me} (h : rlR C A) : (C 49 0 = A 430 13 ∧ C 49 1 = A 430 1 ∧ C 49 2 = A 430 2) ∧ (C 50 0 = A 430 10 ∧ C 50 1 = A 430 11 ∧ C 50 2 = A 430 0 ∧ C 50 3 = A 430 14 ∧ C 50 4 = A 430 12) ∧ C 55 0 = A 430 3 := ⟨h.1.1, h.1.2.1.1, h.1.2.2.1.1⟩
theorem rlR.pe {C A : Me} (h : rlR C A) {p : Int} (g0 : 0 ≤ p) (g1 : p < A 430 0) : C 207 p = A 430 (99 + 3 * p + 1) ∧ C 208 p = A 430 (99 + 3 * p + 2) ∧ C 51 p = A 430 (99 + 3 * p + 0) := ⟨(h.1.2.2.2.1 p g0 g1).1, (h.1.2.2.2.1 p g0 g1).2, by rw [Int.add_zero]; exact h.1.2.1.2.1 p g0 g1⟩
theorem rlR.cr {C A : Me} (h : rlR C A) {c : Int} (g0 : 0 ≤ c) (g1 : c < A 430 14) : (C 209 c = A 430 (15 + 7 * c + 2) ∧ A 430 (15 + 7 * c + 2) < A 430 0) ∧ C 210 c = A 430 (15 + 7 * c + 3) ∧ C 211 c = A 430 (15 + 7 * c + 4) ∧ C 212 c = A 430 (15 + 7 * c + 5) ∧ C 213 c = A 430 (15 + 7 * c + 6) ∧ C 214 c = hangT (tiA A) (A 430 14).toNat c ∧ C 52 c = A 430 (15 + 7 * c + 1) ∧ C 53 c = A 430 (15 + 7 * c + 0) := by
  obtain ⟨k1, k3, k4, k5, k6, k7, -⟩ := h.1.2.2.2.2.1 c g0 g1
  have n := h.1.2.1.2.2.1 c g0 g1
  exact ⟨k1, k3, k4, k5, k6, k7, n.1, by rw [Int.add_zero]; exact n.2⟩
/-- one draw -/
theorem rl_dr {C A : Me} (h : rlR C A) : rlR (drC C) (drA A) := by
  have w := wa_11 h.hy.1
  have s := h.sc
  refine h.now (fun a j _ q => up_ne (by omega)) (fun j => up_ne (by omega)) (fun a j _ _ q => up_ne (by unfold nowA at q; omega)) (wu_11 h.hy.1 (by omega)) ?_
  obtain ⟨⟨b1, b2, b3, b4, b5⟩, b6, b7, b8⟩ := h.1.2.1
  have w0 := wa_0 h.hy.1
  have w14 := wa_14 h.hy.1
  refine ⟨⟨(up_ne (by omega)).trans (b1.trans (up_ne (by omega)).symm), (up_eq ⟨rfl, rfl⟩).trans (Eq.trans ?_ (up_eq ⟨rfl, rfl⟩).symm), (up_ne (by omega)).trans (b3.trans (up_ne (by omega)).symm), (up_ne (by omega)).trans (b4.trans (up_ne (by omega)).symm), (up_ne (by omega)).trans (b5.trans (up_ne (by omega)).symm)⟩, ?_, ?_, ?_⟩
  · rw [s.2.1.2.1]
  · unfold drA drC
    rw [up_ne (show ¬ ((430 : Int) = 430 ∧ (0 : Int) = 11) by omega)]
    intro p g0 g1
    rw [up_ne (by omega), up_ne (by omega)]; exact b6 p g0 g1
  · unfold drA drC
    rw [up_ne (show ¬ ((430 : Int) = 430 ∧ (14 : Int) = 11) by omega)]
    intro c g0 g1
    rw [up_ne (by omega), up_ne (by omega), up_ne (by omega), up_ne (by omega)]; exact b7 c g0 g1
  · unfold drA drC
    intro i g0 g1
    rw [up_ne (by omega), up_ne (by omega)]; exact b8 i g0 g1
/-- the moment's parts -/
theorem rlN.mk {C A : Me} (b1 : C 50 0 = A 430 10) (b2 : C 50 1 = A 430 11) (b3 : C 50 2 = A 430 0) (b4 : C 50 3 = A 430 14) (b5 : C 50 4 = A 430 12) (b6 : ∀ p : Int, 0 ≤ p → p < A 430 0 → C 51 p = A 430 (99 + 3 * p)) (b7 : ∀ c : Int, 0 ≤ c → c < A 430 14 → C 52 c = A 430 (15 + 7 * c + 1) ∧ C 53 c = A 430 (15 + 7 * c)) (b8 : ∀ i : Int, 0 ≤ i → i < 30 → C 54 i = A 430 (2112 + i)) : rlN C A 50 430 := ⟨⟨b1, b2, b3, b4, b5⟩, b6, b7, b8⟩
theorem rlN.o {C A : Me} (h : rlN C A 50 430) : (C 50 0 = A 430 10 ∧ C 50 1 = A 430 11 ∧ C 50 2 = A 430 0 ∧ C 50 3 = A 430 14 ∧ C 50 4 = A 430 12) ∧ (∀ p : Int, 0 ≤ p → p < A 430 0 → C 51 p = A 430 (99 + 3 * p)) ∧ (∀ c : Int, 0 ≤ c → c < A 430 14 → C 52 c = A 430 (15 + 7 * c + 1) ∧ C 53 c = A 430 (15 + 7 * c)) ∧ (∀ i : Int, 0 ≤ i → i < 30 → C 54 i = A 430 (2112 + i)) := h
theorem bk_eq {C A : Me} {c w : Int} (e : C 50 0 = A 430 10) (h0 : 0 ≤ A 430 10 ∧ A 430 10 ≤ 9999) (hc : 0 ≤ c ∧ c < 12) (hw : 0 ≤ w ∧ w < 4) : bkC C c w = bkv A c w := by
  unfold bkC bkv
  rw [e]
  have e1 : shl32 (A 430 10) 6 = A 430 10 * 64 := shl32_n (k := 6) h0.1 (by decide) (by show A 430 10 * 64 < _; omega)
  have e2 : shl32 c 2 = c * 4 := shl32_n (k := 2) hc.1 (by decide) (by show c * 4 < _; omega)
  have e3 : or32 (A 430 10 * 64) (c * 4) = A 430 10 * 64 + c * 4 := or32_add 6 h0.1 (by omega) (by show c * 4 < 64; omega) (by show A 430 10 * 64 + c * 4 < _; omega)
  have e4 : or32 ((A 430 10 * 16 + c) * 4) w = (A 430 10 * 16 + c) * 4 + w := or32_add 2 (by omega) hw.1 (by show w < 4; omega) (by show (A 430 10 * 16 + c) * 4 + w < _; omega)
  rw [e1, e2, e3, show A 430 10 * 64 + c * 4 = (A 430 10 * 16 + c) * 4 by omega, e4]
/-- one more written down -/
theorem rl_wr {C A : Me} (h : rlR C A) {c w : Int} (hc : 0 ≤ c ∧ c < 12) (hw : 0 ≤ w ∧ w < 4) : rlR (wrC C c w) (wrA A c w) := by
  have w12 := wa_12 h.hy.1
  have s := h.sc
  have hb := bk_eq (C := C) (A := A) (c := c) (w := w) s.2.1.1 (wa_10 h.hy.1) hc hw
  refine h.now (fun a j _ q => wrC_o (by omega)) (fun j => wrC_o (by omega)) (fun a j _ _ q => wrA_o w12 (by unfold nowA at q; omega)) (wa_wr h.hy.1 hc hw) ?_
  obtain ⟨⟨b1, b2, b3, b4, b5⟩, b6, b7, b8⟩ := h.1.2.1.o
  have w0 := wa_0 h.hy.1
  have w14 := wa_14 h.hy.1
  refine rlN.mk (by rw [wrC_o (by omega), wrA_o w12 (by omega)]; exact b1) (by rw [wrC_o (by omega), wrA_o w12 (by omega)]; exact b2) (by rw [wrC_o (by omega), wrA_o w12 (by omega)]; exact b3) (by rw [wrC_o (by omega), wrA_o w12 (by omega)]; exact b4) ?_ (fun p g0 g1 => ?_) (fun c g0 g1 => ?_) (fun i g0 g1 => ?_)
  · unfold wrC wrA
    rw [b5]
    by_cases q : A 430 12 = 30
    · rw [if_neg (by omega), if_pos q, up_eq ⟨rfl, rfl⟩, up_eq ⟨rfl, rfl⟩]
    · rw [if_pos (by omega), if_neg q, up_eq ⟨rfl, rfl⟩, up_eq ⟨rfl, rfl⟩]
  · rw [wrA_o w12 (by omega)] at g1
    rw [wrC_o (by omega), wrA_o w12 (by omega)]; exact b6 p g0 g1
  · rw [wrA_o w12 (by omega)] at g1
    rw [wrC_o (by omega), wrC_o (by omega), wrA_o w12 (by omega), wrA_o w12 (by omega)]; exact b7 c g0 g1
  · unfold wrC wrA
    rw [b5, hb]
    by_cases q : A 430 12 = 30
    · rw [if_neg (by omega), if_pos q]
      refine (up_ne (by omega)).trans (Eq.trans ?_ (up_ne (by omega)).symm)
      by_cases q2 : i = 29
      · exact (up_eq ⟨rfl, q2⟩).trans (up_eq ⟨rfl, by omega⟩).symm
      · refine (up_ne (by omega)).trans (Eq.trans ?_ (up_ne (by omega)).symm)
        refine (up_ne (by omega)).trans (Eq.trans ?_ (up_ne (by omega)).symm)
        refine (cpy_in ⟨rfl, by omega⟩).trans (Eq.trans ?_ (cpy_in ⟨rfl, by omega⟩).symm)
        rw [b8 _ (by omega) (by omega)]
        congr 1; omega
    · rw [if_pos (by omega), if_neg q]
      refine (up_ne (by omega)).trans (Eq.trans ?_ (up_ne (by omega)).symm)
      by_cases q2 : i = A 430 12
      · exact (up_eq ⟨rfl, q2⟩).trans (up_eq ⟨rfl, by omega⟩).symm
      · exact (up_ne (by omega)).trans ((b8 i g0 g1).trans (up_ne (by omega)).symm)
/-- a CREASE's state and depth -/
theorem rl_hd {C A : Me} (h : rlR C A) {c v d : Int} (hc : 0 ≤ c ∧ c < 12) (hv : 0 ≤ v ∧ v ≤ 2) (hd : 0 ≤ d ∧ d ≤ 9) : rlR (up (up C 52 c v) 53 c d) (up (up A 430 (15 + 7 * c + 1) v) 430 (15 + 7 * c + 0) d) := by
  refine h.now (fun a j _ q => (up_ne (by omega)).trans (up_ne (by omega))) (fun j => (up_ne (by omega)).trans (up_ne (by omega))) (fun a j _ _ q => (up_ne (by unfold nowA at q; omega)).trans (up_ne (by unfold nowA at q; omega))) (wcu_0 (wcu_1 h.hy.1 hc hv) hc hd) ?_
  obtain ⟨⟨b1, b2, b3, b4, b5⟩, b6, b7, b8⟩ := h.1.2.1.o
  have w0 := wa_0 h.hy.1
  have w14 := wa_14 h.hy.1
  refine rlN.mk (by rw [up_ne (by omega), up_ne (by omega), up_ne (by omega), up_ne (by omega)]; exact b1) (by rw [up_ne (by omega), up_ne (by omega), up_ne (by omega), up_ne (by omega)]; exact b2) (by rw [up_ne (by omega), up_ne (by omega), up_ne (by omega), up_ne (by omega)]; exact b3) (by rw [up_ne (by omega), up_ne (by omega), up_ne (by omega), up_ne (by omega)]; exact b4) (by rw [up_ne (by omega), up_ne (by omega), up_ne (by omega), up_ne (by omega)]; exact b5) (fun p g0 g1 => ?_) (fun e g0 g1 => ?_) (fun i g0 g1 => ?_)
  · rw [up_ne (by omega), up_ne (by omega)] at g1
    rw [up_ne (by omega), up_ne (by omega), up_ne (by omega), up_ne (by omega)]; exact b6 p g0 g1
  · rw [up_ne (by omega), up_ne (by omega)] at g1
    have b := b7 e g0 g1
    by_cases q : e = c
    · subst q
      rw [up_ne (show ¬ ((52 : Int) = 53 ∧ e = e) by omega), up_eq ⟨rfl, rfl⟩, up_eq ⟨rfl, rfl⟩, up_ne (show ¬ ((430 : Int) = 430 ∧ 15 + 7 * e + 1 = 15 + 7 * e + 0) by omega), up_eq ⟨rfl, rfl⟩, up_eq ⟨rfl, by omega⟩]
      exact ⟨rfl, rfl⟩
    · rw [up_ne (by omega), up_ne (by omega), up_ne (by omega), up_ne (by omega), up_ne (by omega), up_ne (by omega), up_ne (by omega), up_ne (by omega)]; exact b
  · rw [up_ne (by omega), up_ne (by omega), up_ne (by omega), up_ne (by omega)]; exact b8 i g0 g1
/-- a depth -/
theorem rl_d {C A : Me} (h : rlR C A) {c d : Int} (hc : 0 ≤ c ∧ c < 12) (hd : 0 ≤ d ∧ d ≤ 9) : rlR (up C 53 c d) (up A 430 (15 + 7 * c + 0) d) := by
  refine h.now (fun a j _ q => up_ne (by omega)) (fun j => up_ne (by omega)) (fun a j _ _ q => up_ne (by unfold nowA at q; omega)) (wcu_0 h.hy.1 hc hd) ?_
  obtain ⟨⟨b1, b2, b3, b4, b5⟩, b6, b7, b8⟩ := h.1.2.1.o
  have w0 := wa_0 h.hy.1
  have w14 := wa_14 h.hy.1
  refine rlN.mk (by rw [up_ne (by omega), up_ne (by omega)]; exact b1) (by rw [up_ne (by omega), up_ne (by omega)]; exact b2) (by rw [up_ne (by omega), up_ne (by omega)]; exact b3) (by rw [up_ne (by omega), up_ne (by omega)]; exact b4) (by rw [up_ne (by omega), up_ne (by omega)]; exact b5) (fun p g0 g1 => ?_) (fun e g0 g1 => ?_) (fun i g0 g1 => ?_)
  · rw [up_ne (by omega)] at g1
    rw [up_ne (by omega), up_ne (by omega)]; exact b6 p g0 g1
  · rw [up_ne (by omega)] at g1
    have b := b7 e g0 g1
    by_cases q : e = c
    · subst q
      rw [up_ne (by omega), up_ne (by omega), up_eq ⟨rfl, rfl⟩, up_eq ⟨rfl, by omega⟩]
      exact ⟨b.1, rfl⟩
    · rw [up_ne (by omega), up_ne (by omega), up_ne (by omega), up_ne (by omega)]; exact b
  · rw [up_ne (by omega), up_ne (by omega)]; exact b8 i g0 g1
/-- COINS -/
theorem rl_co {C A : Me} (h : rlR C A) {p v : Int} (hp : 0 ≤ p ∧ p < 5) (hv : 0 ≤ v ∧ v ≤ 9999) : rlR (up C 51 p v) (up A 430 (99 + 3 * p) v) := by
  refine h.now (fun a j _ q => up_ne (by omega)) (fun j => up_ne (by omega)) (fun a j _ _ q => up_ne (by unfold nowA at q; omega)) (by have := xp_0 h.hy.1 hp hv; rwa [Int.add_zero] at this) ?_
  obtain ⟨⟨b1, b2, b3, b4, b5⟩, b6, b7, b8⟩ := h.1.2.1.o
  have w0 := wa_0 h.hy.1
  have w14 := wa_14 h.hy.1
  refine rlN.mk (by rw [up_ne (by omega), up_ne (by omega)]; exact b1) (by rw [up_ne (by omega), up_ne (by omega)]; exact b2) (by rw [up_ne (by omega), up_ne (by omega)]; exact b3) (by rw [up_ne (by omega), up_ne (by omega)]; exact b4) (by rw [up_ne (by omega), up_ne (by omega)]; exact b5) (fun e g0 g1 => ?_) (fun e g0 g1 => ?_) (fun i g0 g1 => ?_)
  · rw [up_ne (by omega)] at g1
    by_cases q : e = p
    · subst q
      rw [up_eq ⟨rfl, rfl⟩, up_eq ⟨rfl, rfl⟩]
    · rw [up_ne (by omega), up_ne (by omega)]; exact b6 e g0 g1
  · rw [up_ne (by omega)] at g1
    rw [up_ne (by omega), up_ne (by omega), up_ne (by omega), up_ne (by omega)]; exact b7 e g0 g1
  · rw [up_ne (by omega), up_ne (by omega)]; exact b8 i g0 g1
/-- going, coming back, being scorched -/
theorem rl_go {C A : Me} (h : rlR C A) {c : Int} (hc : 0 ≤ c ∧ c < 12) : rlR (go1 C c) (bcA A c 1 0) := rl_wr (rl_hd h hc (by decide) (by decide)) hc (by decide)
theorem rl_cb {C A : Me} (h : rlR C A) {c d : Int} (hc : 0 ≤ c ∧ c < 12) (hd : 0 ≤ d ∧ d ≤ 9) : rlR (cbC C c d) (bcA A c 0 d) := rl_wr (rl_hd h hc (by decide) hd) hc (by decide)
theorem rl_sc {C A : Me} (h : rlR C A) {c : Int} (hc : 0 ≤ c ∧ c < 12) : rlR (wrC (up (up C 52 c 2) 53 c 0) c 1) (bcA A c 2 0) := rl_wr (rl_hd h hc (by decide) (by decide)) hc (by decide)
/-- the set of those that are there -/
theorem rl_th {C A : Me} (h : rlR C A) {n : Nat} (hn : A 430 14 = (n : Int)) : bset (fun c : Int => C 52 c = 0) (fun c => c) n = thA A n := bset_c (fun i hi => by rw [(h.cr (c := i) (by omega) (by omega)).2.2.2.2.2.2.1]) (fun _ _ _ => rfl)
theorem rl_cm {C A : Me} (h : rlR C A) {n : Nat} (hn : A 430 14 = (n : Int)) {c : Int} (hc : 0 ≤ c ∧ c < A 430 14) : mcP C n c ↔ cbk A n c := by
  have s := h.sc
  have k := h.cr hc.1 hc.2
  have t := rl_th h hn
  unfold thA at t
  unfold mcP cbk
  rw [t, k.2.2.2.2.2.2.1, k.2.2.2.2.1, s.2.1.2.2.2.1]
  exact ⟨fun q => q.2, fun q => ⟨hc, q⟩⟩
/-- the damp -/
theorem rl_dn {C A : Me} (h : rlR C A) {n : Nat} (hn : A 430 14 = (n : Int)) {k : Int} : ∀ i : Nat, i ≤ n → rlR (dnS C n k i).1 (dmS A n k i).1 ∧ (dnS C n k i).2 = (dmS A n k i).2 ∧ (dmS A n k i).1 430 14 = (n : Int) := by
  have w14 := wa_14 h.hy.1
  intro i
  induction i with
  | zero => intro _; exact ⟨h, rfl, hn⟩
  | succ i ih =>
    intro hi
    obtain ⟨h1, h2, h3⟩ := ih (by omega)
    have hm := rl_cm h1 h3 (c := i) (by omega)
    by_cases q : (dmS A n k i).2 < k ∧ cbk (dmS A n k i).1 n i
    · rw [dmS_t q, dnS_t (by rw [h2]; exact ⟨q.1, hm.mpr q.2⟩)]
      exact ⟨rl_cb h1 (by omega) (by decide), by show _ + 1 = _ + 1; rw [h2], (bcA_o (wa_12 h1.hy.1) (by omega) (by omega)).trans h3⟩
    · rw [dmS_f q, dnS_f (fun w => q (by rw [h2] at w; exact ⟨w.1, hm.mp w.2⟩))]
      exact ⟨h1, h2, h3⟩
