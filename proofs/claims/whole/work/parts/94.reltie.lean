theorem and_ne {a b : Int} : and32 a b ≠ 0 ↔ ∃ j, j < 32 ∧ tb a j = true ∧ tb b j = true := by
  rw [tb_ne0 (and32_in _ _)]
  constructor
  · intro ⟨j, hj, h⟩
    rw [tb_and, Bool.and_eq_true] at h
    exact ⟨j, hj, h.1, h.2⟩
  · intro ⟨j, hj, h1, h2⟩
    exact ⟨j, hj, by rw [tb_and, h1, h2]; rfl⟩
theorem hp1_tb {T : Int → Int} {s : Int} {c : Nat} (hc : c < 32) {e : Nat} (he : e < 32) : tb (hp1 T s (c + 1)) e = true ↔ tb (hp1 T s c) e = true ∨ (e = c ∧ and32 (T c) (hp1 T s c) ≠ 0) := by
  by_cases q : and32 (T c) (hp1 T s c) ≠ 0
  · rw [hp1_t q, tb_or, tb_shl1 hc he, Bool.or_eq_true, decide_eq_true_iff]
    exact ⟨fun w => w.imp id (fun w => ⟨w, q⟩), fun w => w.imp id (fun w => w.1)⟩
  · rw [hp1_f q, tb_or, tb_0, Bool.or_false]
    exact ⟨Or.inl, fun w => w.elim id (fun w => absurd w.2 q)⟩
theorem hp1_up {T : Int → Int} {s : Int} {e : Nat} (he : e < 32) : ∀ (m i : Nat), m + i < 32 → tb (hp1 T s i) e = true → tb (hp1 T s (m + i)) e = true := by
  intro m
  induction m with
  | zero => intro i _ h; rwa [Nat.zero_add]
  | succ m ih =>
    intro i hi h
    rw [show m + 1 + i = (m + i) + 1 by omega]
    exact (hp1_tb (by omega) he).mpr (Or.inl (ih i (by omega) h))
/-- closed: what hangs on one of the set is in it -/
def cld (T : Int → Int) (n : Nat) (s : Int) : Prop := ∀ c : Nat, c < n → ∀ j : Nat, j < 32 → tb (T c) j = true → tb s j = true → tb s c = true
theorem hp1_min {T : Int → Int} {n : Nat} (hn : n ≤ 12) {s S : Int} (hS : cld T n S) (hs : ∀ e : Nat, e < 32 → tb s e = true → tb S e = true) : ∀ i : Nat, i ≤ n → ∀ e : Nat, e < 32 → tb (hp1 T s i) e = true → tb S e = true := by
  intro i
  induction i with
  | zero => intro _ e he h; exact hs e he h
  | succ i ih =>
    intro hi e he h
    rcases (hp1_tb (by omega) he).mp h with q | ⟨q, w⟩
    · exact ih (by omega) e he q
    · subst q
      obtain ⟨j, hj, a, b⟩ := and_ne.mp w
      exact hS e (by omega) j hj a (ih (by omega) j hj b)
theorem hk_min {T : Int → Int} {n : Nat} (hn : n ≤ 12) {s S : Int} (hS : cld T n S) (hs : ∀ e : Nat, e < 32 → tb s e = true → tb S e = true) : ∀ k : Nat, ∀ e : Nat, e < 32 → tb (hk T n s k) e = true → tb S e = true := by
  intro k
  induction k with
  | zero => exact hs
  | succ k ih => exact hp1_min hn hS ih n (Nat.le_refl n)
theorem hk_in {T : Int → Int} {n : Nat} (hn : n ≤ 12) {s : Int} {e : Nat} (he : e < 32) (h : tb s e = true) : ∀ k : Nat, tb (hk T n s k) e = true := by
  intro k
  induction k with
  | zero => exact h
  | succ k ih => exact hp1_up he n 0 (by omega) ih
def cb (s : Int) : Nat → Nat
  | 0 => 0
  | i + 1 => cb s i + (if tb s i = true then 1 else 0)
theorem cb_le {s : Int} : ∀ n : Nat, cb s n ≤ n := by
  intro n
  induction n with
  | zero => exact Nat.le_refl 0
  | succ n ih => unfold cb; split <;> omega
theorem cb_mo {s t : Int} : ∀ n : Nat, (∀ e : Nat, e < n → tb s e = true → tb t e = true) → cb s n ≤ cb t n ∧ ((∃ e : Nat, e < n ∧ tb t e = true ∧ tb s e ≠ true) → cb s n < cb t n) := by
  intro n
  induction n with
  | zero => intro _; exact ⟨Nat.le_refl 0, fun ⟨e, he, _⟩ => absurd he (Nat.not_lt_zero e)⟩
  | succ n ih =>
    intro h
    have h1 := ih (fun e q => h e (by omega))
    have h2 := h n (by omega)
    unfold cb
    by_cases a : tb s n = true
    · rw [if_pos a, if_pos (h2 a)]
      refine ⟨by omega, fun ⟨e, he, x, y⟩ => ?_⟩
      have : e ≠ n := fun q => y (q ▸ a)
      have := h1.2 ⟨e, by omega, x, y⟩
      omega
    · rw [if_neg a]
      by_cases b : tb t n = true
      · rw [if_pos b]; exact ⟨by omega, fun _ => by omega⟩
      · rw [if_neg b]
        refine ⟨by omega, fun ⟨e, he, x, y⟩ => ?_⟩
        have : e ≠ n := fun q => b (q ▸ x)
        have := h1.2 ⟨e, by omega, x, y⟩
        omega
theorem cld_hk {T : Int → Int} {n : Nat} (hn : n ≤ 12) {s : Int} (h1 : 1 ≤ cb s n) : ∀ k : Nat, cld T n (hk T n s k) ∨ k + 1 ≤ cb (hk T n s k) n := by
  intro k
  induction k with
  | zero => exact Or.inr h1
  | succ k ih =>
    by_cases q : cld T n (hk T n s k)
    · refine Or.inl (fun c hc j hj a b => ?_)
      exact hp1_up (by omega) n 0 (by omega) (q c hc j hj a (hp1_min hn q (fun _ _ w => w) n (Nat.le_refl n) j hj b))
    · refine Or.inr ?_
      have h2 := ih.resolve_left q
      have h3 := cb_mo (s := hk T n s k) (t := hk T n s (k + 1)) n (fun e he w => hp1_up (by omega) n 0 (by omega) w)
      have h4 : ∃ e : Nat, e < n ∧ tb (hk T n s (k + 1)) e = true ∧ tb (hk T n s k) e ≠ true := Classical.byContradiction fun w => q (fun c hc j hj a b => Classical.byContradiction fun x => w ⟨c, hc, by
        have y : tb (hp1 T (hk T n s k) (c + 1)) c = true := (hp1_tb (by omega) (by omega)).mpr (Or.inr ⟨rfl, and_ne.mpr ⟨j, hj, a, hp1_up hj c 0 (by omega) b⟩⟩)
        have z := hp1_up (T := T) (s := hk T n s k) (e := c) (by omega) (n - (c + 1)) (c + 1) (by omega) y
        rw [show n - (c + 1) + (c + 1) = n by omega] at z
        exact z, x⟩)
      have := h3.2 h4
      omega
theorem cb_1 {n c : Nat} (hc : c < n) (hn : n ≤ 12) : 1 ≤ cb (shl32 1 c) n := by
  have h := (cb_mo (s := 0) (t := shl32 1 c) n (fun e _ w => by rw [tb_0] at w; exact absurd w (by decide))).2 ⟨c, hc, by rw [tb_shl1 (by omega) (by omega)]; exact decide_eq_true rfl, by rw [tb_0]; decide⟩
  omega
/-- HANGING is closed, the CREASE is in it, and it is the least -/
theorem hang_c {T : Int → Int} {n c : Nat} (hc : c < n) (hn : n ≤ 12) : cld T n (hangT T n c) := by
  have h := cld_hk (T := T) hn (cb_1 hc hn) 12
  have := cb_le (s := hk T n (shl32 1 c) 12) n
  exact h.resolve_right (by omega)
theorem hang_i {T : Int → Int} {n c : Nat} (hc : c < n) (hn : n ≤ 12) : tb (hangT T n c) c = true := hk_in hn (by omega) (by rw [tb_shl1 (by omega) (by omega)]; exact decide_eq_true rfl) 12
theorem hang_m {T : Int → Int} {n c : Nat} (hc : c < n) (hn : n ≤ 12) {S : Int} (hS : cld T n S) (h : tb S c = true) {e : Nat} (he : e < 32) (q : tb (hangT T n c) e = true) : tb S e = true := hk_min hn hS (fun e he w => by
  rw [tb_shl1 (by omega) he, decide_eq_true_iff] at w
  subst w; exact h) 12 e he q
/-- HANGING when a is tied to b -/
theorem hang_t {T U : Int → Int} {n a b i : Nat} (hn : n ≤ 12) (ha : a < n) (hb : b < n) (hi : i < n) (hUa : U a = or32 (T a) (shl32 1 b)) (hUo : ∀ c : Nat, c < n → c ≠ a → U c = T c) : hangT U n i = (if tb (hangT T n i) b = true then or32 (hangT T n i) (hangT T n a) else hangT T n i) := by
  have r1 := hangT4 (T := U) (n := n) hn (c := i) (by omega)
  have r2 := hangT4 (T := T) (n := n) hn (c := i) (by omega)
  have sub : ∀ c : Nat, c < n → ∀ j : Nat, j < 32 → tb (T c) j = true → tb (U c) j = true := fun c hc j hj w => by
    by_cases q : c = a
    · subst q; rw [hUa, tb_or, w, Bool.true_or]
    · rw [hUo c hc q]; exact w
  have cT : ∀ S : Int, cld U n S → cld T n S := fun S hS c hc j hj x y => hS c hc j hj (sub c hc j hj x) y
  have cU := hang_c (T := U) hi hn
  have iU := hang_i (T := U) hi hn
  have ab : tb (U a) b = true := by rw [hUa, tb_or, tb_shl1 (by omega) (by omega), decide_eq_true rfl, Bool.or_true]
  refine tb_ext (by omega) (by split; exact or32_in _ _; omega) (fun e he => ?_)
  have up : tb (hangT T n i) e = true → tb (hangT U n i) e = true := hang_m hi hn (cT _ cU) iU he
  by_cases q : tb (hangT T n i) b = true
  · rw [if_pos q]
    have bU : tb (hangT U n i) b = true := hang_m hi hn (cT _ cU) iU (by omega) q
    have aU : tb (hangT U n i) a = true := cU a ha b (by omega) ab bU
    have h2 : tb (hangT T n a) e = true → tb (hangT U n i) e = true := hang_m ha hn (cT _ cU) aU he
    have c2 : cld U n (or32 (hangT T n i) (hangT T n a)) := fun c hc j hj x y => by
      by_cases w : c = a
      · subst w; rw [tb_or, hang_i ha hn, Bool.or_true]
      · rw [hUo c hc w] at x
        rw [tb_or, Bool.or_eq_true] at y ⊢
        exact y.imp (hang_c hi hn c hc j hj x) (hang_c ha hn c hc j hj x)
    have h3 : tb (hangT U n i) e = true → tb (or32 (hangT T n i) (hangT T n a)) e = true := hang_m hi hn c2 (by rw [tb_or, hang_i hi hn, Bool.true_or]) he
    rw [Bool.eq_iff_iff]
    refine ⟨h3, fun w => ?_⟩
    rw [tb_or, Bool.or_eq_true] at w
    exact w.elim up h2
  · rw [if_neg q]
    have c2 : cld U n (hangT T n i) := fun c hc j hj x y => by
      by_cases w : c = a
      · subst w
        rw [hUa, tb_or, Bool.or_eq_true, tb_shl1 (by omega) hj, decide_eq_true_iff] at x
        rcases x with x | x
        · exact hang_c hi hn c hc j hj x y
        · subst x; exact absurd y q
      · rw [hUo c hc w] at x
        exact hang_c hi hn c hc j hj x y
    rw [Bool.eq_iff_iff]
    exact ⟨hang_m hi hn c2 (hang_i hi hn) he, up⟩
