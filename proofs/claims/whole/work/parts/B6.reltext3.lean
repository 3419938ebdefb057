/-- below the text that is read nothing changes -/
theorem clM_z {M : Me} {n : Nat} (hS : CS M n) (h0 : 0 ≤ M 432 (M 429 12)) {j : Int} (h : j < M 429 12) : clM M n 432 j = M 432 j := by
  have hI : clI M = M 429 12 + 1 + 4 * M 432 (M 429 12) := rfl
  unfold clM
  split
  · rfl
  · rename_i h1
    split
    · rfl
    · rename_i h2
      split
      · rfl
      · rename_i h3
        have hS2 : soO M ≤ 2 → SOK (clX M n) n (clI M) := fun q => hS (by omega) q (fun q2 => h2 ⟨q, q2⟩) h3
        have b : clB M n 432 j = M 432 j := clB_o (by omega) hS2 (by omega) (fun _ => by omega)
        have e : clN M n 432 j = M 432 j := (up_ne (by omega)).trans b
        (repeat' split)
        · exact b
        · exact (nxT_o (by omega)).trans e
        · exact e
theorem rtI_z {n : Nat} {j : Int} : ∀ (k : Nat) (M : Me), rtS n k M → 0 ≤ M 432 (M 429 12) → j < M 429 12 → (rtI n k M).2 432 j = M 432 j := by
  intro k
  induction k with
  | zero => intro M _ _ _; rfl
  | succ k ih =>
    intro M hS h0 h
    by_cases h9 : M 429 9 = 0
    · rw [rtI_0 h9]
    · obtain ⟨hs, hg⟩ := hS h9
      by_cases hv : clV M n = 0
      · obtain ⟨-, -, -, e⟩ := clM_s hv
        have e12 : clM M n 429 12 = M 429 12 := clM_o hs (by omega)
        have e0 : clM M n 432 (M 429 12) = M 432 (M 429 12) + 1 := by
          rw [e, nxT_o (by omega)]
          exact up_eq ⟨rfl, rfl⟩
        rw [rtI_s h9 hv, ih _ (hg hv) (by rw [e12, e0]; omega) (by rw [e12]; exact h)]
        exact clM_z hs h0 h
      · rw [rtI_e h9 hv]; exact clM_z hs h0 h
/-- what the class's code of a law comes to -/
theorem cv_run {K dp nm nk Z : Int → Int} {c0 c1 len : Int} {g : SM} (h : CN K c0 c1 3 g) (hE : EV dp nm nk) (h0 : 0 ≤ c0) (h1 : c1 < len ∧ len ≤ 300) (hk : K c1 = or32 (shl32 0 6) 5) : lsV (akR dp nk K len 300 (Z, 0, c0)).1 (akR dp nk K len 300 (Z, 0, c0)).2.1 = g dp nm := by
  have c01 := h.1
  obtain ⟨X', ⟨j, hj, r⟩, -, x2⟩ := h.2 K len dp nm nk Z 0 (fun _ _ _ => rfl) (by omega) h0 hE (by decide) (by decide)
  have r := r (299 - j + 1)
  rw [show j + (299 - j + 1) = 300 by omega] at r
  have c := cell (k := 5) (v := 0) (by decide) (by decide)
  have e : akT dp nk (and32 (K c1) 63) (shr32 (K c1) 6) (X', 0 + 1, c1) = (X', 0 + 1, -1) := by
    rw [hk, c.1, c.2]
    exact if_pos rfl
  have s : ∀ f : Nat, akR dp nk K len f (X', 0 + 1, -1) = (X', 0 + 1, -1) := fun f => by
    cases f with
    | zero => rfl
    | succ f => exact akR_f (fun w => absurd w.1 (by show ¬ (0 : Int) ≤ -1; decide))
  rw [akR_t (s := (X', 0 + 1, c1)) ⟨by show 0 ≤ c1; omega, h1.1⟩, e, s] at r
  rw [r]
  exact (lsV_s (Int.le_refl 0)).trans x2
/-- what the reference's comes to, within the rows -/
theorem av_run {T dp nm nk X Y : Int → Int} {p w0 w1 : Int} {g : SM} (h : RN T p w0 w1 3 0 g) (hE : EV dp nm nk) : (rnS dp nm T p w0 (X, Y, 0, 0) (w1 - w0).toNat).1 0 = g dp nm ∧ ∀ j : Nat, j < (w1 - w0).toNat → grd (T (p + 2 * (w0 + (j : Int)))) (T (p + 2 * (w0 + (j : Int)) + 1)) (rnS dp nm T p w0 (X, Y, 0, 0) j) := by
  obtain ⟨V', H', ⟨-, r2, r3⟩, -, -, x3, -⟩ := h.2 T dp nm nk X Y 0 0 (fun _ _ _ => rfl) hE (by decide) (by decide) (by decide) (by decide) (fun c a b => by omega)
  refine ⟨?_, fun j hj => r3 j (by omega)⟩
  rw [r2]
  exact x3 rfl
theorem EV.of {dp nm : Int → Int} (h1 : ∀ v, 0 ≤ dp v ∧ dp v ≤ 9) (h2 : ∀ k, 0 ≤ k → k < 9 → -9 ≤ nm k ∧ nm k ≤ 9999) : EV dp nm (fun k => nm (sgm k)) := ⟨h1, h2, fun _ _ _ => rfl⟩
/-- a law read is the same on both sides -/
theorem law_x {C A : Me} {t l : Int} {n : Nat} (h : LAWI C A (15 + 8 * t) (705 * t) l) (hx1 : C (15 + 8 * t) 1 ≤ 300) (h24 : 0 ≤ A 432 (705 * t)) (h13 : A 429 13 ≤ 300) : rlW C (A 432) t l ∧ ∀ i : Nat, (i : Int) < A 432 (705 * t) → A 432 (705 * t + 1 + 4 * (i : Int)) = l → XOK (A 432) t i := by
  rcases h with ⟨h1, h2⟩ | ⟨i, c1, h1, h2, h3, h4, h5, h6, h7, h8, g, g1, g2, g3⟩
  · refine ⟨Or.inl ⟨h1, ?_⟩, fun i a b => absurd b (h2 i (by omega) a)⟩
    rw [lwI_n _ (fun q hq => h2 q (by omega) (by omega))]
    decide
  · have e : lwI (A 432) t l (A 432 (705 * t)).toNat = (i : Int) := by
      have := lwI_s (T := A 432) (t := t) (u := l) h2 (fun q hq => h3 q (by omega) (by omega)) ((A 432 (705 * t)).toNat - (i + 1))
      rwa [show i + 1 + ((A 432 (705 * t)).toNat - (i + 1)) = (A 432 (705 * t)).toNat by omega] at this
    refine ⟨Or.inr ⟨h4, by rw [e]; omega, fun dp nm nk X Y Z b1 b2 b3 => ?_⟩, fun q a b => ?_⟩
    · rw [e]
      unfold cVal aVal
      rw [cv_run g1 ⟨b1, b2, b3⟩ h4 ⟨h5, hx1⟩ h6]
      exact (av_run g2 ⟨b1, b2, b3⟩).1.symm
    · have qi : q = i := Classical.byContradiction fun w => h3 q a w b
      subst qi
      have w01 := g2.1
      exact ⟨h7, w01, by omega, fun dp nm X Y b1 b2 => (av_run g2 (EV.of b1 b2)).2⟩
/-- a text read is the same on both sides -/
theorem txt_x {C A : Me} {n : Nat} {t : Int} (h : TXI C A n (15 + 8 * t) (705 * t)) : rlX C (A 432) t ∧ (0 ≤ A 432 (705 * t) ∧ A 432 (705 * t) ≤ 24) ∧ ∀ l : Nat, (l : Int) < A 432 (705 * t) → (0 ≤ A 432 (705 * t + 1 + 4 * (l : Int)) ∧ A 432 (705 * t + 1 + 4 * (l : Int)) ≤ 10) ∧ (A 432 (705 * t + 1 + 4 * (l : Int)) ≤ 2 → XOK (A 432) t l) ∧ (A 432 (705 * t + 1 + 4 * (l : Int)) = 10 → 1 ≤ A 432 (705 * t + 1 + 4 * (l : Int) + 1) ∧ A 432 (705 * t + 1 + 4 * (l : Int) + 1) ≤ 60) := by
  obtain ⟨d, -, ⟨c0, c1, c2⟩, ⟨a0, a1⟩, ⟨b0, b1⟩, el, ei⟩ := h
  have tp := d.2.1.2.1
  have n3 := d.1.2.2.1
  have L : ∀ l : Int, 0 ≤ l → l < 3 → _ := fun l m0 m1 => law_x (n := n) (el l m0 m1).2 (by omega) c1 (by omega)
  refine ⟨⟨c0, fun i i0 i1 => ?_, fun l m0 m1 => (L l m0 m1).1⟩, ⟨c1, c2⟩, fun l hl => ?_⟩
  · obtain ⟨k0, k1, k2, k3, k4⟩ := ei i i0 i1
    refine ⟨k1, fun w => ?_, fun w => ?_, fun w => ?_, k3⟩
    · have := k2 w 0 (by decide) (by unfold nuD; omega)
      rwa [Int.add_zero, Int.add_zero] at this
    · have := k2 w.1 1 (by decide) (by unfold nuD; omega)
      rwa [show 15 + 8 * t + 5 + 1 = 15 + 8 * t + 6 by omega, show 705 * t + 1 + 4 * i + 1 + 1 = 705 * t + 1 + 4 * i + 2 by omega] at this
    · have := k2 (by omega) 2 (by decide) (by unfold nuD; omega)
      rwa [show 15 + 8 * t + 5 + 2 = 15 + 8 * t + 7 by omega, show 705 * t + 1 + 4 * i + 1 + 2 = 705 * t + 1 + 4 * i + 3 by omega] at this
  · obtain ⟨k0, k1, k2, k3, k4⟩ := ei l (by omega) hl
    exact ⟨k0, fun w => (L _ k0.1 (by omega)).2 l hl rfl, k4⟩
