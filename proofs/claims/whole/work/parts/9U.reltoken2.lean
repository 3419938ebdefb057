/-- the class's place in a word, letter by letter -/
def pmC (B : Int → Int) (en : Int) : List Int → Int → Int
  | [], s => s
  | c :: r, s => pmC B en r (if 0 ≤ s ∧ s < en ∧ B s = c then s + 1 else -1)
theorem pmC_m {B : Int → Int} {en : Int} : ∀ w : List Int, pmC B en w (-1) = -1 := by
  intro w
  induction w with
  | nil => rfl
  | cons c r ih => show pmC B en r (if 0 ≤ (-1 : Int) ∧ (-1 : Int) < en ∧ B (-1) = c then -1 + 1 else -1) = -1; rw [if_neg (by omega)]; exact ih
theorem pm_ls {B : Int → Int} {en : Int} : ∀ (w : List Int) (s : Int), 0 ≤ s → s ≤ en → (pmC B en w s = en ↔ ls B s (en - s).toNat = w) := by
  intro w
  induction w with
  | nil =>
    intro s h0 h1
    show s = en ↔ _
    obtain ⟨k, hk⟩ : ∃ k : Nat, en - s = (k : Int) := ⟨(en - s).toNat, by omega⟩
    rw [hk, Int.toNat_natCast]
    cases k with
    | zero => exact ⟨fun _ => rfl, fun _ => by omega⟩
    | succ k => exact ⟨fun h => by omega, fun h => by cases h⟩
  | cons c r ih =>
    intro s h0 h1
    show pmC B en r (if 0 ≤ s ∧ s < en ∧ B s = c then s + 1 else -1) = en ↔ _
    obtain ⟨k, hk⟩ : ∃ k : Nat, en - s = (k : Int) := ⟨(en - s).toNat, by omega⟩
    rw [hk, Int.toNat_natCast]
    cases k with
    | zero =>
      rw [if_neg (by omega), pmC_m]
      exact ⟨fun h => by omega, fun h => by cases h⟩
    | succ k =>
      show _ ↔ B s :: ls B (s + 1) k = c :: r
      by_cases q : B s = c
      · rw [if_pos ⟨h0, by omega, q⟩, ih (s + 1) (by omega) (by omega), show (en - (s + 1)).toNat = k by omega, q]
        exact ⟨fun h => by rw [h], fun h => by injection h⟩
      · rw [if_neg (fun w => q w.2.2), pmC_m]
        exact ⟨fun h => by omega, fun h => by injection h with h1 _; exact absurd h1 q⟩
/-- a row of letters against WORDS -/
theorem gw_let {M : Me} {st en : Int} {k : Int} : ∀ (w : List Int) (p : Nat) (s : Int), (∀ i : Nat, i < w.length → chC ((p + i : Nat) : Int) = w.getD i 0) → (∀ b : Int, b ∈ w → b ≠ 32) → gwS M st en p = (1, k, s) → gwS M st en (p + w.length) = (1, k, pmC (M 3) en w s) := by
  intro w
  induction w with
  | nil => intro p s _ _ h; exact h
  | cons c r ih =>
    intro p s h1 h2 h
    have c0 : chC (p : Int) = c := h1 0 (Nat.zero_lt_succ _)
    have c1 : chC (p : Int) ≠ 32 := by rw [c0]; exact h2 c (List.mem_cons_self ..)
    have st1 : gwS M st en (p + 1) = (1, k, if 0 ≤ s ∧ s < en ∧ M 3 s = c then s + 1 else -1) := by
      by_cases q : 0 ≤ s ∧ s < en ∧ M 3 s = c
      · rw [if_pos q, gw_c (by rw [h]) c1 (by rw [h, c0]; exact q), h]
      · rw [if_neg q, gw_x (by rw [h]) c1 (by rw [h, c0]; exact q), h]
    have := ih (p + 1) _ (fun i hi => by
      have z := h1 (i + 1) (Nat.succ_lt_succ hi)
      rw [show p + 1 + i = p + (i + 1) by omega, z]; rfl) (fun b hb => h2 b (List.mem_cons_of_mem _ hb)) st1
    rw [show p + (c :: r).length = p + 1 + r.length by show p + (r.length + 1) = _; omega]
    exact this
theorem gw_words {M : Me} {st en : Int} (h0 : 0 ≤ st) (h1 : st ≤ en) : ∀ (ws : List (List Int)) (p : Nat) (k : Int), 16 ≤ k → (∀ i : Nat, i < (wfl ws).length → chC ((p + i : Nat) : Int) = (wfl ws).getD i 0) → (∀ w : List Int, w ∈ ws → ∀ b : Int, b ∈ w → b ≠ 32) → gwS M st en p = (1, k, st) → (gwS M st en (p + (wfl ws).length)).1 = kWs (ls (M 3) st (en - st).toNat) ws k := by
  intro ws
  induction ws with
  | nil => intro p k _ _ _ h; show (gwS M st en p).1 = 1; rw [h]
  | cons w r ih =>
    intro p k hk1 hc hb h
    have e : (wfl (w :: r)).length = w.length + 1 + (wfl r).length := by
      show (w ++ 32 :: wfl r).length = _
      rw [List.length_append, List.length_cons]; omega
    have g := gw_let (M := M) (st := st) (en := en) (k := k) w p st (fun i hi => by
      rw [hc i (by omega)]
      show (w ++ 32 :: wfl r).getD i 0 = _
      rw [List.getD_eq_getElem?_getD, List.getD_eq_getElem?_getD, List.getElem?_append_left hi]) (hb w (List.mem_cons_self ..)) h
    have sp : chC ((p + w.length : Nat) : Int) = 32 := by
      rw [hc w.length (by omega)]
      show (w ++ 32 :: wfl r).getD w.length 0 = _
      rw [List.getD_eq_getElem?_getD, List.getElem?_append_right (Nat.le_refl _), Nat.sub_self]; rfl
    have pl := pm_ls (B := M 3) (en := en) w st h0 h1
    rw [e, show p + (w.length + 1 + (wfl r).length) = p + w.length + 1 + (wfl r).length by omega]
    show _ = if ls (M 3) st (en - st).toNat = w then k else kWs (ls (M 3) st (en - st).toNat) r (k + 1)
    by_cases q : pmC (M 3) en w st = en
    · rw [if_pos (pl.mp q)]
      have g2 := gw_w (by rw [g]) sp (by rw [g]; exact q)
      rw [g] at g2
      have g3 := gwS_e (M := M) (st := st) (en := en) (i := p + w.length + 1) (by rw [g2]; show ¬ k = 1; omega) (wfl r).length
      rw [g3, g2]
    · rw [if_neg (fun z => q (pl.mpr z))]
      have g2 := gw_n (by rw [g]) sp (by rw [g]; exact q)
      rw [g] at g2
      exact ih (p + w.length + 1) (k + 1) (by omega) (fun i hi => by
        have z := hc (w.length + 1 + i) (by omega)
        rw [show p + w.length + 1 + i = p + (w.length + 1 + i) by omega, z]
        show (w ++ 32 :: wfl r).getD (w.length + 1 + i) 0 = _
        rw [List.getD_eq_getElem?_getD, List.getD_eq_getElem?_getD, List.getElem?_append_right (by omega), show w.length + 1 + i - w.length = i + 1 by omega]; rfl) (fun v hv => hb v (List.mem_cons_of_mem _ hv)) g2
/-- which word the class finds -/
theorem gwT_k {M : Me} {st en : Int} (h0 : 0 ≤ st) (h1 : st ≤ en) : gwT M st en = kW (ls (M 3) st (en - st).toNat) := by
  have h := gw_words (M := M) h0 h1 wrds 0 16 (by decide) (fun i hi => by
    rw [wfl_n] at hi
    have := List.all_eq_true.mp ch_w i (List.mem_range.mpr hi)
    rw [Nat.zero_add]
    exact of_decide_eq_true this) (by decide) rfl
  rw [wfl_n, Nat.zero_add] at h
  exact h
