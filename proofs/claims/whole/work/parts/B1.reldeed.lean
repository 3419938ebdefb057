def DS (C A : Me) (n : Nat) : Prop := TPE C A n ∧ TE C A n ∧ (0 ≤ C 2 8 ∧ C 2 8 ≤ 10000)
/-- what a deed's reading changes, on either side -/
def FD (x c u : Int) (C C' : Me) : Prop := ∀ a j : Int, ¬ (a = 2 ∧ (5 ≤ j ∧ j ≤ 8)) → ¬ (x + 5 ≤ a ∧ a < x + 5 + u ∧ j = c) → C' a j = C a j
def FE (X u : Int) (A A' : Me) : Prop := ∀ a j : Int, ¬ (a = 429 ∧ 7 ≤ j ∧ j ≤ 11) → ¬ (a = 432 ∧ X + 1 ≤ j ∧ j < X + 1 + u) → A' a j = A a j
/-- both refuse -/
def DF (A' : Me) (r : RV) (v : Int) : Prop := r.1 = 0 ∧ (v ≠ 0 ∧ v ≠ -1) ∧ r.2 2 1 = v ∧ r.2 2 2 = A' 429 8
theorem DS.rf {C A : Me} {n : Nat} {f : Int} (h : DS C A n) (h0 : f ≠ 0 ∧ f ≠ -1) : DF A (0, rfC C f) f := ⟨rfl, h0, (rf_12 (C := C) (w := f)).1, (rf_12 (C := C) (w := f)).2.trans h.2.1.1.2⟩
/-- the words agree -/
theorem pa_ok {C A : Me} {n : Nat} {due w : Int} (h : DS C A n) (hw : (A 429 9 = 2 ∧ A 429 11 = w) ↔ C 2 7 = due) : (C 2 7 = due ∧ paC C n due = (1, goC C n) ∧ (A 429 9 = 2 ∧ A 429 11 = w) ∧ DS (goC C n) (nxT A n) n ∧ A 429 8 ≤ nxT A n 429 8) ∨ (paC C n due = (0, rfC C 1) ∧ ¬ (A 429 9 = 2 ∧ A 429 11 = w)) := by
  unfold paC
  by_cases q : C 2 7 = due
  · rw [if_pos q]
    obtain ⟨t1, t2, t3⟩ := te_nx (C' := C) (A' := A) h.1 h.2.1 (fun _ _ _ => rfl) (fun _ _ _ => rfl)
    exact Or.inl ⟨q, rfl, hw.mpr q, ⟨t2, t1, tv_go⟩, by have := h.2.1.2.1; omega⟩
  · rw [if_neg q]
    exact Or.inr ⟨rfl, fun w => q (hw.mp w)⟩
/-- a number read -/
theorem fg_ok {C A : Me} {n : Nat} {x c X u l m : Int} (hx : 15 ≤ x ∧ x ≤ 39) (h : DS C A n) (hc : C x 0 = c + 1) (c0 : 0 ≤ c) (hu : 0 ≤ u ∧ u < 3) (hl : 0 ≤ l) (hm : m ≤ 9999) : (fgV A l m = 0 ∧ (rnC C x n u l m).1 = 1 ∧ DS (rnC C x n u l m).2 (fgM A n (X + 1 + u) l m) n ∧ A 429 8 ≤ fgM A n (X + 1 + u) l m 429 8 ∧ ((rnC C x n u l m).2 (x + 5 + u) c = fgM A n (X + 1 + u) l m 432 (X + 1 + u) ∧ l ≤ fgM A n (X + 1 + u) l m 432 (X + 1 + u) ∧ fgM A n (X + 1 + u) l m 432 (X + 1 + u) ≤ m) ∧ (∀ a j : Int, ¬ (a = 2 ∧ (5 ≤ j ∧ j ≤ 8)) → ¬ (a = x + 5 + u ∧ j = c) → (rnC C x n u l m).2 a j = C a j) ∧ (∀ a j : Int, ¬ (a = 429 ∧ 7 ≤ j ∧ j ≤ 11) → ¬ (a = 432 ∧ j = X + 1 + u) → fgM A n (X + 1 + u) l m a j = A a j)) ∨ (fgM A n (X + 1 + u) l m = A ∧ DF A (rnC C x n u l m) (fgV A l m)) := by
  have sg := te_sg h.2.1
  unfold rnC
  by_cases k2 : C 2 7 = 2
  · have a9 := sg.2.1.mpr k2
    have a10 := h.2.1.2.2.2 k2
    rw [if_neg (fun w => w k2)]
    by_cases q : C 2 8 < l ∨ m < C 2 8
    · have ev : fgV A l m = 2 := (if_neg (fun w => w a9)).trans (if_neg (by omega))
      have em : fgM A n (X + 1 + u) l m = A := if_neg (by omega)
      rw [if_pos q, ev, em]
      exact Or.inr ⟨rfl, h.rf (by decide)⟩
    · have ev : fgV A l m = 0 := (if_neg (fun w => w a9)).trans (if_pos (by omega))
      have em : fgM A n (X + 1 + u) l m = nxT (up A 432 (X + 1 + u) (A 429 10)) n := if_pos (by omega)
      have et : teC C x u (C 2 8) = up C (x + 5 + u) c (C 2 8) := (if_pos (by omega)).trans (by rw [hc, show c + 1 - 1 = c by omega])
      rw [if_neg q, ev, em, et]
      obtain ⟨t1, t2, t3⟩ := te_nx (C' := up C (x + 5 + u) c (C 2 8)) (A' := up A 432 (X + 1 + u) (A 429 10)) h.1 h.2.1 (fun a j w => up_ne (by omega)) (fun a j w => up_ne (by omega))
      have e1 : nxT (up A 432 (X + 1 + u) (A 429 10)) n 432 (X + 1 + u) = A 429 10 := (nxT_o (by omega)).trans (up_eq ⟨rfl, rfl⟩)
      refine Or.inl ⟨rfl, rfl, ⟨t2, t1, tv_go⟩, by have := h.2.1.2.1; omega, ?_, fun a j w1 w2 => (goC_o (by omega)).trans (up_ne w2), fun a j w1 w2 => (nxT_o w1).trans (up_ne w2)⟩
      rw [e1]
      refine ⟨?_, by omega, by omega⟩
      exact (goC_o (by omega)).trans ((up_eq ⟨rfl, rfl⟩).trans (by omega))
  · have a9 : A 429 9 ≠ 1 := fun w => k2 (sg.2.1.mp w)
    have ev : fgV A l m = 1 := if_pos a9
    have em : fgM A n (X + 1 + u) l m = A := if_neg (fun w => a9 w.1)
    rw [if_pos k2, ev, em]
    exact Or.inr ⟨rfl, h.rf (by decide)⟩
/-- a deed's body, side by side -/
def DR (C A : Me) (n : Nat) (x c X u : Int) (r : RV) (v : Int) (A' : Me) : Prop := (r.1 ≠ 0 ∧ v = 0 ∧ DS r.2 A' n ∧ A 429 8 ≤ A' 429 8 ∧ FD x c u C r.2 ∧ FE X u A A' ∧ (∀ i : Int, 0 ≤ i → i < u → r.2 (x + 5 + i) c = A' 432 (X + 1 + i))) ∨ DF A' r v
theorem wdV_t {M : Me} {n : Nat} {w a b : Int} (h : M 429 9 = 2 ∧ M 429 11 = w) : wdV M n w a b = fgV (nxT M n) a b := if_pos h
theorem wdV_f {M : Me} {n : Nat} {w a b : Int} (h : ¬ (M 429 9 = 2 ∧ M 429 11 = w)) : wdV M n w a b = 1 := if_neg h
theorem wdM_t {M : Me} {n : Nat} {w i a b : Int} (h : M 429 9 = 2 ∧ M 429 11 = w) : wdM M n w i a b = fgM (nxT M n) n i a b := if_pos h
theorem wdM_f {M : Me} {n : Nat} {w i a b : Int} (h : ¬ (M 429 9 = 2 ∧ M 429 11 = w)) : wdM M n w i a b = M := if_neg h
/-- a word and a number behind u numbers -/
theorem wd_ok {C0 A0 C A : Me} {n : Nat} {x c X u l m due w : Int} (hx : 15 ≤ x ∧ x ≤ 39) (h : DS C A n) (hc : C x 0 = c + 1) (c0 : 0 ≤ c) (hu : 0 ≤ u ∧ u < 3) (hl : 0 ≤ l) (hm : m ≤ 9999) (hw : (A 429 9 = 2 ∧ A 429 11 = w) ↔ C 2 7 = due) (h8 : A0 429 8 ≤ A 429 8) (hD : FD x c u C0 C) (hF : FE X u A0 A) (hv : ∀ i : Int, 0 ≤ i → i < u → C (x + 5 + i) c = A 432 (X + 1 + i)) : DR C0 A0 n x c X (u + 1) (thR (paC C n due) fun D => rnC D x n u l m) (wdV A n w l m) (wdM A n w (X + 1 + u) l m) := by
  rcases pa_ok h hw with ⟨p0, p1, p2, p3, p4⟩ | ⟨p1, p2⟩
  · rw [p1, thR_1 (show (1 : Int) ≠ 0 by decide), wdV_t p2, wdM_t p2]
    have hc2 : goC C n x 0 = c + 1 := (goC_o (by omega)).trans hc
    rcases fg_ok (X := X) hx p3 hc2 c0 hu hl hm with ⟨f1, f2, f3, f4, f5, f6, f7⟩ | ⟨f1, f2⟩
    · refine Or.inl ⟨by rw [f2]; decide, f1, f3, by omega, fun a j w1 w2 => ?_, fun a j w1 w2 => ?_, fun i i0 i1 => ?_⟩
      · rw [f6 a j (by omega) (by omega), goC_o (by omega)]
        exact hD a j w1 (by omega)
      · rw [f7 a j w1 (by omega), nxT_o w1]
        exact hF a j w1 (by omega)
      · by_cases e : i = u
        · subst e; exact f5.1
        · rw [f6 _ _ (by omega) (by omega), f7 _ _ (by omega) (by omega), goC_o (by omega), nxT_o (by omega)]
          exact hv i i0 (by omega)
    · rw [f1]; exact Or.inr f2
  · rw [p1, thR_0 rfl, wdV_f p2, wdM_f p2]
    exact Or.inr (h.rf (by decide))
/-- the first number -/
theorem f1_ok {C A : Me} {n : Nat} {x c X l m : Int} (hx : 15 ≤ x ∧ x ≤ 39) (h : DS C A n) (hc : C x 0 = c + 1) (c0 : 0 ≤ c) (hl : 0 ≤ l) (hm : m ≤ 9999) : DR C A n x c X 1 (rnC C x n 0 l m) (fgV A l m) (fgM A n (X + 1) l m) ∧ (fgV A l m = 0 → l ≤ fgM A n (X + 1) l m 432 (X + 1) ∧ fgM A n (X + 1) l m 432 (X + 1) ≤ m) := by
  have f := fg_ok (X := X) (u := 0) hx h hc c0 (by decide) hl hm
  rw [show X + 1 + 0 = X + 1 by omega, show x + 5 + 0 = x + 5 by omega] at f
  rcases f with ⟨f1, f2, f3, f4, f5, f6, f7⟩ | ⟨f1, f2⟩
  · refine ⟨Or.inl ⟨by rw [f2]; decide, f1, f3, f4, fun a j w1 w2 => f6 a j (by omega) (by omega), fun a j w1 w2 => f7 a j w1 (by omega), fun i i0 i1 => ?_⟩, fun _ => f5.2⟩
    obtain rfl : i = 0 := by omega
    rw [show X + 1 + 0 = X + 1 by omega, show x + 5 + 0 = x + 5 by omega]
    exact f5.1
  · rw [f1]; exact ⟨Or.inr f2, fun w => absurd w f2.2.1.1⟩
theorem thR_a {r : RV} {f g : Me → RV} : thR (thR r f) g = thR r fun D => thR (f D) g := by
  by_cases q : r.1 = 0
  · rw [thR_0 q, thR_0 q, thR_0 rfl]
  · rw [thR_1 q, thR_1 q]
theorem thR_1o {r : RV} (h : r.1 = 0 ∨ r.1 = 1) : thR r (fun D => (1, D)) = r := by
  rcases h with q | q
  · rw [thR_0 q, ← q]
  · rw [thR_1 (by rw [q]; decide), ← q]
theorem rn_01 {C : Me} {x u l m : Int} {n : Nat} : (rnC C x n u l m).1 = 0 ∨ (rnC C x n u l m).1 = 1 := by
  unfold rnC
  split
  · exact Or.inl rfl
  · split
    · exact Or.inl rfl
    · exact Or.inr rfl
theorem pa_01 {C : Me} {n : Nat} {due : Int} : (paC C n due).1 = 0 ∨ (paC C n due).1 = 1 := by
  unfold paC
  split
  · exact Or.inr rfl
  · exact Or.inl rfl
theorem th_01 {r : RV} {f : Me → RV} (h : ∀ D, (f D).1 = 0 ∨ (f D).1 = 1) : (thR r f).1 = 0 ∨ (thR r f).1 = 1 := by
  by_cases q : r.1 = 0
  · rw [thR_0 q]; exact Or.inl rfl
  · rw [thR_1 q]; exact h _
theorem DR.th {C A C' A' : Me} {n : Nat} {x c X u v2 : Int} {r : RV} {v : Int} {B : Me} {f : Me → RV} (h : DR C A n x c X u r v A') (hs : r.1 ≠ 0 → v = 0 → DS r.2 A' n → A 429 8 ≤ A' 429 8 → FD x c u C r.2 → FE X u A A' → (∀ i : Int, 0 ≤ i → i < u → r.2 (x + 5 + i) c = A' 432 (X + 1 + i)) → DR C A n x c X (u + 1) (f r.2) v2 B) {w : Int} {D : Me} (hw : (v = 0 → w = v2 ∧ D = B) ∧ (v ≠ 0 → w = v ∧ D = A')) : DR C A n x c X (u + 1) (thR r f) w D := by
  rcases h with ⟨h1, h2, h3, h4, h5, h6, h7⟩ | h
  · rw [thR_1 h1, (hw.1 h2).1, (hw.1 h2).2]
    exact hs h1 h2 h3 h4 h5 h6 h7
  · obtain ⟨h1, h2, h3, h4⟩ := h
    rw [thR_0 h1, (hw.2 h2.1).1, (hw.2 h2.1).2]
    exact Or.inr ⟨rfl, h2, h3, h4⟩
/-- two numbers with a word between -/
theorem pr_ok {C A : Me} {n : Nat} {x c X m d due w : Int} (hx : 15 ≤ x ∧ x ≤ 39) (h : DS C A n) (hc : C x 0 = c + 1) (c0 : 0 ≤ c) (hm : m ≤ 9999) (hd : d ≤ 9999) (hw : ∀ C' A' : Me, TE C' A' n → ((A' 429 9 = 2 ∧ A' 429 11 = w) ↔ C' 2 7 = due)) : DR C A n x c X 2 (thR (rnC C x n 0 0 m) fun D => thR (paC D n due) fun D => rnC D x n 1 0 d) (prV A n w X m d) (prM A n w X m d) := by
  obtain ⟨f1, f2⟩ := f1_ok (X := X) (l := 0) hx h hc c0 (Int.le_refl 0) hm
  refine f1.th (u := 1) (C' := C) (v2 := wdV (fgM A n (X + 1) 0 m) n w 0 d) (B := wdM (fgM A n (X + 1) 0 m) n w (X + 1 + 1) 0 d) (fun a1 a2 a3 a4 a5 a6 a7 => ?_) ⟨fun q => ⟨if_pos q, (if_pos q).trans (by rw [show X + 1 + 1 = X + 2 by omega])⟩, fun q => ⟨if_neg q, if_neg q⟩⟩
  have e0 : (rnC C x n 0 0 m).2 x 0 = c + 1 := (a5 x 0 (by omega) (by omega)).trans hc
  exact wd_ok (u := 1) hx a3 e0 c0 (by decide) (Int.le_refl 0) hd (hw _ _ a3.2.1) a4 a5 a6 a7
theorem cr_ok {C A : Me} {n : Nat} {x c X : Int} (hx : 15 ≤ x ∧ x ≤ 39) (h : DS C A n) (hc : C x 0 = c + 1) (c0 : 0 ≤ c) : DR C A n x c X 3 (thR (thR (rnC C x n 0 0 4) fun D => thR (paC D n 29) fun D => rnC D x n 1 0 99) fun D => thR (paC D n 30) fun D => rnC D x n 2 1 9) (crV A n X) (crM A n X) := by
  obtain ⟨f1, f2⟩ := f1_ok (X := X) (l := 0) (m := 4) hx h hc c0 (Int.le_refl 0) (by decide)
  have g := f1.th (u := 1) (C' := C) (v2 := crW A n X) (B := cr2 A n X) (w := if fgV A 0 4 = 0 then crW A n X else fgV A 0 4) (D := if fgV A 0 4 = 0 then cr2 A n X else cr1 A n X) (f := fun D => thR (paC D n 29) fun D => rnC D x n 1 0 99) (fun a1 a2 a3 a4 a5 a6 a7 => by
    have e0 : (rnC C x n 0 0 4).2 x 0 = c + 1 := (a5 x 0 (by omega) (by omega)).trans hc
    have z := wd_ok (w := w4L 121 101 97 114) (due := 29) (u := 1) (l := 0) (m := 99) hx a3 e0 c0 (by decide) (Int.le_refl 0) (by decide) (te_year a3.2.1) a4 a5 a6 a7
    rw [show X + 1 + 1 = X + 2 by omega] at z
    exact z) ⟨fun q => ⟨if_pos q, if_pos q⟩, fun q => ⟨if_neg q, if_neg q⟩⟩
  refine g.th (u := 2) (C' := C) (v2 := wdV (cr2 A n X) n (w5L 100 101 112 116 104) 1 9) (B := wdM (cr2 A n X) n (w5L 100 101 112 116 104) (X + 3) 1 9) (fun a1 a2 a3 a4 a5 a6 a7 => ?_) ⟨fun q => ?_, fun q => ?_⟩
  · have q1 : fgV A 0 4 = 0 := by
      refine Classical.byContradiction fun q => ?_
      rw [if_neg q] at a2
      exact q a2
    rw [if_pos q1] at a3 a4 a6 a7
    have e0 := (a5 x 0 (by omega) (by omega)).trans hc
    have z := wd_ok (w := w5L 100 101 112 116 104) (due := 30) (u := 2) (l := 1) (m := 9) hx a3 e0 c0 (by decide) (by decide) (by decide) (te_depth a3.2.1) a4 a5 a6 a7
    rw [show X + 1 + 2 = X + 3 by omega] at z
    exact z
  · have q1 : fgV A 0 4 = 0 := by
      refine Classical.byContradiction fun w => ?_
      rw [if_neg w] at q
      exact w q
    rw [if_pos q1] at q
    exact ⟨(if_pos q1).trans (if_pos q), (if_pos q1).trans (if_pos q)⟩
  · by_cases q1 : fgV A 0 4 = 0
    · rw [if_pos q1] at q ⊢
      rw [if_pos q1]
      exact ⟨(if_pos q1).trans (if_neg q), (if_pos q1).trans (if_neg q)⟩
    · rw [if_neg q1, if_neg q1]
      exact ⟨if_neg q1, if_neg q1⟩
