/-- the same tape -/
def TPE (C A : Me) (n : Nat) : Prop := C 2 0 = (n : Int) ∧ A 429 4 = (n : Int) ∧ n ≤ 300 ∧ ∀ j : Int, 0 ≤ j → j < n → C 3 j = A 433 j ∧ 0 ≤ A 433 j ∧ A 433 j ≤ 255
theorem bt_eq {C A : Me} {n : Nat} (h : TPE C A n) {i : Int} (hi : 0 ≤ i) : btc C i = bta A i ∧ -1 ≤ bta A i ∧ bta A i ≤ 255 ∧ (bta A i < 0 ↔ (n : Int) ≤ i) := by
  obtain ⟨h0, h1, h2, h3⟩ := h
  unfold btc bta
  rw [h0, h1]
  by_cases q : i < (n : Int)
  · rw [if_pos q, if_pos q]
    have := h3 i hi q
    exact ⟨this.1, by omega, this.2.2, by omega⟩
  · rw [if_neg q, if_neg q]
    exact ⟨rfl, by decide, by decide, by omega⟩
theorem sk_eq {C A : Me} {n : Nat} (h : TPE C A n) : ∀ (f : Nat) (i : Int), 0 ≤ i → skC C f i = skA A f i := by
  intro f
  induction f with
  | zero => intro i _; rfl
  | succ f ih =>
    intro i hi
    unfold skC skA
    rw [(bt_eq h hi).1, ih (i + 1) (by omega)]
theorem sk_le {C A : Me} {n : Nat} (h : TPE C A n) : ∀ (f : Nat) (i : Int), 0 ≤ i → i + f = n → skC C f i ≤ n := by
  intro f i _ hf
  have := (skC_b (M := C) f i).2
  omega
theorem nu_eq {C A : Me} {n : Nat} (h : TPE C A n) : ∀ (f : Nat) (i u v : Int), 0 ≤ i → 0 ≤ v → u = min v 10000 → (nuC C f i u).1 = (nuS A f i v).1 ∧ 0 ≤ (nuS A f i v).2 ∧ (nuC C f i u).2 = min (nuS A f i v).2 10000 := by
  intro f
  induction f with
  | zero => intro i u v _ h0 h1; exact ⟨rfl, h0, h1⟩
  | succ f ih =>
    intro i u v hi h0 h1
    unfold nuC nuS
    have b := bt_eq h hi
    rw [b.1]
    by_cases q : 48 ≤ bta A i ∧ bta A i ≤ 57
    · rw [if_pos (show dgP (bta A i) from q), if_pos q]
      refine ih (i + 1) _ _ (by omega) ?_ ?_
      · split <;> omega
      · split <;> omega
    · rw [if_neg (show ¬ dgP (bta A i) from q), if_neg q]
      exact ⟨rfl, h0, h1⟩
theorem wo_eq {C A : Me} {n : Nat} (h : TPE C A n) : ∀ (f : Nat) (i w : Int), 0 ≤ i → woS A f i w = (wlE C f i, (ls (bta A) i (wlE C f i - i).toNat).foldl stW w) ∧ byL (ls (bta A) i (wlE C f i - i).toNat) := by
  intro f
  induction f with
  | zero =>
    intro i w _
    have e : (wlE C 0 i - i).toNat = 0 := by show (i - i).toNat = 0; omega
    rw [e]
    exact ⟨rfl, fun b hb => absurd hb List.not_mem_nil⟩
  | succ f ih =>
    intro i w hi
    have b := bt_eq h hi
    by_cases q : ltP (bta A i)
    · have e1 : wlE C (f + 1) i = wlE C f (i + 1) := if_pos (by rw [b.1]; exact q)
      have e2 : woS A (f + 1) i w = woS A f (i + 1) (stW w (bta A i)) := if_pos q
      have le := (wlE_b (M := C) f (i + 1)).1
      obtain ⟨i1, i2⟩ := ih (i + 1) (stW w (bta A i)) (by omega)
      have e3 : (wlE C f (i + 1) - i).toNat = (wlE C f (i + 1) - (i + 1)).toNat + 1 := by omega
      rw [e1, e2, e3, i1]
      refine ⟨rfl, fun c hc => ?_⟩
      rcases List.mem_cons.mp (show c ∈ bta A i :: ls (bta A) (i + 1) (wlE C f (i + 1) - (i + 1)).toNat from hc) with w9 | w9
      · subst w9; unfold ltP at q; omega
      · exact i2 c w9
    · have e1 : wlE C (f + 1) i = i := if_neg (by rw [b.1]; exact q)
      have e2 : woS A (f + 1) i w = (i, w) := if_neg q
      have e3 : (i - i).toNat = 0 := by omega
      rw [e1, e2, e3]
      exact ⟨rfl, fun b hb => absurd hb List.not_mem_nil⟩
theorem ls_c {B D : Int → Int} : ∀ (k : Nat) (s : Int), (∀ j : Int, s ≤ j → j < s + k → B j = D j) → ls B s k = ls D s k := by
  intro k
  induction k with
  | zero => intro s _; rfl
  | succ k ih =>
    intro s h
    show B s :: ls B (s + 1) k = D s :: ls D (s + 1) k
    rw [h s (by omega) (by omega), ih (s + 1) (fun j a c => h j (by omega) (by omega))]
/-- the reference's sort of a token that is no word -/
def rsO (k : Int) : Int := if k = 0 then 0 else if k = 2 then 1 else if k = 3 then 40 else if k = 4 then 41 else if k = 5 then 59 else if k = 6 then 43 else if k = 7 then 45 else if k = 8 then 42 else if k = 9 then 47 else if k = 10 then 60 else if k = 11 then 4 else if k = 12 then 62 else if k = 13 then 5 else if k = 14 then 61 else 35
/-- the letters of the reference's token -/
abbrev leA (A : Me) : List Int := ls (bta A) (A 429 8) (A 429 7 - A 429 8).toNat
/-- the same token at hand -/
def TE (C A : Me) (n : Nat) : Prop := (C 2 5 = A 429 7 ∧ C 2 6 = A 429 8) ∧ (0 ≤ A 429 8 ∧ A 429 8 ≤ A 429 7 ∧ A 429 7 ≤ n ∧ (C 2 7 ≠ 0 → A 429 8 < A 429 7) ∧ (C 2 7 = 0 → A 429 8 = n)) ∧ ((C 2 7 ≠ 1 ∧ (0 ≤ C 2 7 ∧ C 2 7 ≤ 15) ∧ A 429 9 = rsO (C 2 7)) ∨ (C 2 7 = 1 ∧ (A 429 9 = 3 ∨ A 429 9 = 58)) ∨ (A 429 9 = 2 ∧ byL (leA A) ∧ A 429 11 = cdW (leA A) ∧ C 2 7 = kW (leA A))) ∧ (C 2 7 = 2 → 0 ≤ A 429 10 ∧ C 2 8 = min (A 429 10) 10000)
theorem kWs_b {l : List Int} : ∀ (ws : List (List Int)) (k : Int), 16 ≤ k → kWs l ws k = 1 ∨ (k ≤ kWs l ws k ∧ kWs l ws k < k + ws.length ∧ ws[(kWs l ws k - k).toNat]? = some l) := by
  intro ws
  induction ws with
  | nil => intro k _; exact Or.inl rfl
  | cons w r ih =>
    intro k hk
    show (if l = w then k else kWs l r (k + 1)) = 1 ∨ _
    by_cases q : l = w
    · have e : kWs l (w :: r) k = k := if_pos q
      rw [e, if_pos q]
      refine Or.inr ⟨Int.le_refl _, by show k < k + ((r.length + 1 : Nat) : Int); omega, ?_⟩
      rw [show (k - k).toNat = 0 by omega, q]; rfl
    · have e : kWs l (w :: r) k = kWs l r (k + 1) := if_neg q
      rw [e, if_neg q]
      rcases ih (k + 1) (by omega) with z | ⟨z1, z2, z3⟩
      · exact Or.inl z
      · refine Or.inr ⟨by omega, by show _ < k + ((r.length + 1 : Nat) : Int); omega, ?_⟩
        rw [show (kWs l r (k + 1) - k).toNat = (kWs l r (k + 1) - (k + 1)).toNat + 1 by omega]
        exact z3
theorem kW_b {l : List Int} : kW l = 1 ∨ (16 ≤ kW l ∧ kW l ≤ 43 ∧ wrds[(kW l - 16).toNat]? = some l) := by
  rcases kWs_b (l := l) wrds 16 (by decide) with h | ⟨h1, h2, h3⟩
  · exact Or.inl h
  · have e : ((wrds.length : Nat) : Int) = 28 := by decide
    exact Or.inr ⟨h1, by show kWs l wrds 16 ≤ 43; omega, h3⟩
/-- a token on both sides -/
theorem te_go {C A : Me} {n : Nat} (h : TPE C A n) (h5 : C 2 5 = A 429 7) (h7 : 0 ≤ A 429 7 ∧ A 429 7 ≤ n) : TE (goC C n) (nxT A n) n := by
  obtain ⟨s, hs⟩ : ∃ s : Int, s = skA A (n - A 429 7).toNat (A 429 7) := ⟨_, rfl⟩
  have es : skC C (n - C 2 5).toNat (C 2 5) = s := by rw [h5, hs]; exact sk_eq h _ _ h7.1
  have sb := skA_b (M := A) (n - A 429 7).toNat (A 429 7)
  rw [← hs] at sb
  have s0 : 0 ≤ s ∧ s ≤ n := by omega
  have b := bt_eq h s0.1
  have b1 := bt_eq h (show 0 ≤ s + 1 by omega)
  unfold goC nxT
  rw [es, ← hs]
  unfold goS2 nxtS
  by_cases q0 : (n : Int) ≤ s
  · rw [if_pos q0, if_pos (b.2.2.2.mpr q0)]
    refine ⟨⟨by rw [tc_r5, tk_r7], by rw [tc_r6, tk_r8]⟩, ?_, Or.inl ?_, ?_⟩
    · rw [tk_r8, tk_r7, tc_r7]; exact ⟨s0.1, Int.le_refl _, s0.2, fun w => absurd rfl w, fun _ => by omega⟩
    · rw [tc_r7, tk_r9]; exact ⟨by decide, by decide, rfl⟩
    · rw [tc_r7]; intro w; exact absurd w (by decide)
  · have q1 : ¬ bta A s < 0 := fun w => q0 (b.2.2.2.mp w)
    rw [if_neg q0, if_neg q1, b.1]
    by_cases q2 : 48 ≤ bta A s ∧ bta A s ≤ 57
    · rw [if_pos (show dgP (bta A s) from q2), if_pos q2]
      have nu := nu_eq h (n - s).toNat s 0 0 s0.1 (Int.le_refl 0) rfl
      have nb := nuS_b h.2.1 (n - s).toNat s 0 (by omega) (by decide)
      have lt : s < (nuS A (n - s).toNat s 0).1 := by
        obtain ⟨f, hf⟩ : ∃ f : Nat, (n - s).toNat = f + 1 := ⟨(n - s).toNat - 1, by omega⟩
        rw [hf]
        have e : nuS A (f + 1) s 0 = nuS A f (s + 1) (if (0 : Int) ≤ 99999 then 10 * 0 + bta A s - 48 else 0) := if_pos q2
        rw [e]
        have := (nuS_b h.2.1 f (s + 1) (if (0 : Int) ≤ 99999 then 10 * 0 + bta A s - 48 else 0) (by omega) (by split <;> omega)).1.1
        omega
      refine ⟨⟨by rw [tc_r5, tk_r7, nu.1], by rw [tc_r6, tk_r8]⟩, ?_, Or.inl ?_, ?_⟩
      · rw [tk_r8, tk_r7, tc_r7]; exact ⟨s0.1, nb.1.1, nb.1.2, fun _ => lt, fun w => absurd w (by decide)⟩
      · rw [tc_r7, tk_r9]; exact ⟨by decide, by decide, rfl⟩
      · rw [tc_r8, tk_r10]; exact fun _ => nu.2
    · rw [if_neg (show ¬ dgP (bta A s) from q2), if_neg q2]
      by_cases q3 : 97 ≤ bta A s ∧ bta A s ≤ 122 ∨ 65 ≤ bta A s ∧ bta A s ≤ 90
      · rw [if_pos (show ltP (bta A s) from q3), if_pos q3]
        obtain ⟨w1, w2⟩ := wo_eq h (n - s).toNat s 0 s0.1
        have wb := wlE_b (M := C) (n - s).toNat s
        have lt : s < wlE C (n - s).toNat s := by
          obtain ⟨f, hf⟩ : ∃ f : Nat, (n - s).toNat = f + 1 := ⟨(n - s).toNat - 1, by omega⟩
          rw [hf]
          have e : wlE C (f + 1) s = wlE C f (s + 1) := if_pos (by rw [b.1]; exact q3)
          rw [e]
          have := (wlE_b (M := C) f (s + 1)).1
          omega
        have el : ls (C 3) s (wlE C (n - s).toNat s - s).toNat = ls (bta A) s (wlE C (n - s).toNat s - s).toNat := ls_c _ s (fun j a c => by
          have := h.2.2.2 j (by omega) (by omega)
          rw [this.1]
          unfold bta
          rw [if_pos (by rw [h.2.1]; omega)])
        have eb : ∀ p st kd nb wd : Int, bta (tkM A p st kd nb wd) = bta A := fun p st kd nb wd => funext fun i => bta_tk
        rw [w1]
        refine ⟨⟨by rw [tc_r5, tk_r7], by rw [tc_r6, tk_r8]⟩, ?_, Or.inr (Or.inr ?_), ?_⟩
        · rw [tk_r8, tk_r7, tc_r7]
          refine ⟨s0.1, by omega, by omega, fun _ => lt, fun w => ?_⟩
          rw [gwT_k s0.1 (by omega)] at w
          rcases kW_b (l := ls (C 3) s (wlE C (n - s).toNat s - s).toNat) with z | z
          · omega
          · omega
        · show tkM A _ _ _ _ _ 429 9 = 2 ∧ byL (ls (bta (tkM A _ _ _ _ _)) (tkM A _ _ _ _ _ 429 8) (tkM A _ _ _ _ _ 429 7 - tkM A _ _ _ _ _ 429 8).toNat) ∧ tkM A _ _ _ _ _ 429 11 = cdW (ls (bta (tkM A _ _ _ _ _)) (tkM A _ _ _ _ _ 429 8) (tkM A _ _ _ _ _ 429 7 - tkM A _ _ _ _ _ 429 8).toNat) ∧ tcM C _ _ _ _ 2 7 = kW (ls (bta (tkM A _ _ _ _ _)) (tkM A _ _ _ _ _ 429 8) (tkM A _ _ _ _ _ 429 7 - tkM A _ _ _ _ _ 429 8).toNat)
          rw [tk_r9, tk_r11, tk_r8, tk_r7, eb, tc_r7, gwT_k s0.1 (by omega), el]
          exact ⟨rfl, w2, rfl, rfl⟩
        · rw [tc_r7, gwT_k s0.1 (by omega)]
          intro w
          rcases kW_b (l := ls (C 3) s (wlE C (n - s).toNat s - s).toNat) with z | z
          · omega
          · omega
      · rw [if_neg (show ¬ ltP (bta A s) from q3), if_neg q3]
        have eo : orC C s = if bta A (s + 1) = 61 ∧ (bta A s = 60 ∨ bta A s = 62) then 1 else 0 := by unfold orC; rw [b.1, b1.1]
        have b1n : bta A (s + 1) = 61 → s + 1 < n := fun w => by have := b1.2.2.2; omega
        rw [eo]
        have fin : ∀ (p kd sk : Int), (s < p ∧ p ≤ n) → kd ≠ 0 → kd ≠ 2 → ((kd ≠ 1 ∧ (0 ≤ kd ∧ kd ≤ 15) ∧ sk = rsO kd) ∨ (kd = 1 ∧ (sk = 3 ∨ sk = 58))) → TE (tcM C p s kd 0) (tkM A p s sk (A 429 10) (A 429 11)) n := fun p kd sk hp k0 k2 hk => by
          refine ⟨⟨by rw [tc_r5, tk_r7], by rw [tc_r6, tk_r8]⟩, ?_, ?_, ?_⟩
          · rw [tk_r8, tk_r7, tc_r7]; exact ⟨s0.1, by omega, hp.2, fun _ => hp.1, fun w => absurd w k0⟩
          · rw [tc_r7, tk_r9]
            rcases hk with hk | hk
            · exact Or.inl hk
            · exact Or.inr (Or.inl hk)
          · rw [tc_r7]; exact fun w => absurd w k2
        by_cases q4 : bta A s = 60 ∧ bta A (s + 1) = 61
        · have := b1n q4.2
          rw [if_pos ⟨q4.2, Or.inl q4.1⟩, if_pos q4, q4.1, show sgC 60 1 = 11 from rfl]
          exact fin _ 11 4 (by omega) (by decide) (by decide) (Or.inl ⟨by decide, by decide, rfl⟩)
        · rw [if_neg q4]
          by_cases q5 : bta A s = 62 ∧ bta A (s + 1) = 61
          · have := b1n q5.2
            rw [if_pos ⟨q5.2, Or.inr q5.1⟩, if_pos q5, q5.1, show sgC 62 1 = 13 from rfl]
            exact fin _ 13 5 (by omega) (by decide) (by decide) (Or.inl ⟨by decide, by decide, rfl⟩)
          · rw [if_neg q5, if_neg (fun w => by rcases w.2 with z | z; exact q4 ⟨z, w.1⟩; exact q5 ⟨z, w.1⟩), Int.add_zero]
            generalize bta A s = v at q1 q2 q3
            refine fin (s + 1) (sgC v 0) _ (by omega) ?_ ?_ ?_
            · unfold sgC; (repeat' split) <;> first | decide | omega
            · unfold sgC; (repeat' split) <;> first | decide | omega
            · unfold sgC
              by_cases v1 : v = 40
              · subst v1; exact Or.inl ⟨by decide, by decide, rfl⟩
              by_cases v2 : v = 41
              · subst v2; exact Or.inl ⟨by decide, by decide, rfl⟩
              by_cases v3 : v = 59
              · subst v3; exact Or.inl ⟨by decide, by decide, rfl⟩
              by_cases v4 : v = 43
              · subst v4; exact Or.inl ⟨by decide, by decide, rfl⟩
              by_cases v5 : v = 45
              · subst v5; exact Or.inl ⟨by decide, by decide, rfl⟩
              by_cases v6 : v = 42
              · subst v6; exact Or.inl ⟨by decide, by decide, rfl⟩
              by_cases v7 : v = 47
              · subst v7; exact Or.inl ⟨by decide, by decide, rfl⟩
              by_cases v8 : v = 60
              · subst v8; exact Or.inl ⟨by decide, by decide, rfl⟩
              by_cases v9 : v = 62
              · subst v9; exact Or.inl ⟨by decide, by decide, rfl⟩
              by_cases v10 : v = 61
              · subst v10; exact Or.inl ⟨by decide, by decide, rfl⟩
              by_cases v11 : v = 35
              · subst v11; exact Or.inl ⟨by decide, by decide, rfl⟩
              rw [if_neg v1, if_neg v2, if_neg v3, if_neg v4, if_neg v5, if_neg v6, if_neg v7, if_neg v8, if_neg v9, if_neg v10, if_neg v11]
              exact Or.inr ⟨rfl, by split <;> omega⟩
