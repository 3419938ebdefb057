def smN (g : Nat → Int) : Nat → Int
  | 0 => 0
  | s + 1 => smN g s + g s
theorem smN_c {f g : Nat → Int} : ∀ m : Nat, (∀ i : Nat, i < m → f i = g i) → smN f m = smN g m := by
  intro m
  induction m with
  | zero => intro _; rfl
  | succ m ih => intro h; show smN f m + f m = smN g m + g m; rw [ih (fun i hi => h i (by omega)), h m (by omega)]
theorem smN_z {f : Nat → Int} : ∀ m : Nat, (∀ i : Nat, i < m → f i = 0) → smN f m = 0 := by
  intro m
  induction m with
  | zero => intro _; rfl
  | succ m ih => intro h; show smN f m + f m = 0; rw [ih (fun i hi => h i (by omega)), h m (by omega)]; rfl
theorem smN_to {f : Nat → Int} {n : Nat} : ∀ d : Nat, (∀ i : Nat, n ≤ i → i < n + d → f i = 0) → smN f (n + d) = smN f n := by
  intro d
  induction d with
  | zero => intro _; rfl
  | succ d ih =>
    intro h
    show smN f (n + d) + f (n + d) = smN f n
    rw [ih (fun i a b => h i a (by omega)), h (n + d) (by omega) (by omega), Int.add_zero]
theorem smN_2 {g : Nat → Int} : ∀ m : Nat, smN g (2 * m) = smN (fun t => g (2 * t)) m + smN (fun t => g (2 * t + 1)) m := by
  intro m
  induction m with
  | zero => rfl
  | succ m ih =>
    show smN g (2 * m) + g (2 * m) + g (2 * m + 1) = smN (fun t => g (2 * t)) m + g (2 * m) + (smN (fun t => g (2 * t + 1)) m + g (2 * m + 1))
    rw [ih]; omega
theorem fnd_s {a : Int → Int} {n n6 : Nat} {al : Int} : ∀ m : Nat, fnd a n n6 al m = smN (fun s => sok a n n6 al (s : Int)) m := by
  intro m
  induction m with
  | zero => rfl
  | succ m ih => show fnd a n n6 al m + sok a n n6 al m = _; rw [ih]; rfl
theorem wth_s {a : Int → Int} {n n6 : Nat} {al c : Int} : ∀ m : Nat, wth a n n6 al m c = smN (fun s => sok a n n6 al (s : Int) * and32 (shr32 (s : Int) c) 1) m := by
  intro m
  induction m with
  | zero => rfl
  | succ m ih => show wth a n n6 al m c + sok a n n6 al m * and32 (shr32 (m : Int) c) 1 = _; rw [ih]; rfl
theorem tb_nat {x j : Nat} (hx : x < 4096) (hj : j < 32) : tb (x : Int) j = x.testBit j := by
  rw [Nat.testBit_eq_decide_div_mod_eq]
  have b := bit_nat (x := x) (j := j) (by omega) hj
  have t := tb_has (s := (x : Int)) hj
  rw [b] at t
  cases q : tb (x : Int) j
  · symm
    refine decide_eq_false (fun w => ?_)
    rw [w] at t
    rw [t.mp rfl] at q
    exact absurd q (by decide)
  · symm
    refine decide_eq_true ?_
    have := t.mpr q
    omega
theorem x_lt {c d n t s : Nat} (h : c + d = n) (hn : n ≤ 12) (ht : t < 2 ^ d) (hs : s < 2 ^ c) : 2 ^ c * t + s < 4096 := by
  have h1 : 2 ^ c * t + s < 2 ^ c * (t + 1) := by rw [Nat.mul_add]; omega
  have h2 : 2 ^ c * (t + 1) ≤ 2 ^ c * 2 ^ d := Nat.mul_le_mul_left _ ht
  rw [← Nat.pow_add, h] at h2
  have h3 : 2 ^ n ≤ 2 ^ 12 := Nat.pow_le_pow_right (by decide) hn
  omega
theorem x_bit {c t s j : Nat} (hs : s < 2 ^ c) (hx : 2 ^ c * t + s < 4096) (hj : j < 32) : tb ((2 ^ c * t + s : Nat) : Int) j = if j < c then s.testBit j else t.testBit (j - c) := by
  rw [tb_nat hx hj, Nat.testBit_two_pow_mul_add t hs j]
theorem x_2 {c t s : Nat} : 2 ^ c * (2 * t) + s = 2 ^ (c + 1) * t + s ∧ 2 ^ c * (2 * t + 1) + s = 2 ^ (c + 1) * t + (2 ^ c * 1 + s) := by
  have e : 2 ^ c * (2 * t) = 2 ^ (c + 1) * t := by rw [Nat.pow_succ, Nat.mul_assoc]
  refine ⟨by rw [e], ?_⟩
  rw [Nat.mul_add, e, Nat.add_assoc]
theorem isum_m2 {p q : Int → Prop} [DecidablePred p] [DecidablePred q] {f : Int → Int} : ∀ n : Nat, (∀ i : Nat, i < n → p i → q i) → (∀ i : Nat, i < n → 0 ≤ f i) → isum p f n ≤ isum q f n := by
  intro n
  induction n with
  | zero => intro _ _; exact Int.le_refl 0
  | succ n ih =>
    intro h h0
    have i := ih (fun i hi => h i (by omega)) (fun i hi => h0 i (by omega))
    have z := h0 n (by omega)
    by_cases w : p n
    · rw [isum_t w, isum_t (h n (by omega) w)]; omega
    · rw [isum_f w]
      by_cases w2 : q n
      · rw [isum_t w2]; omega
      · rw [isum_f w2]; omega
/-- the creases of a person: where the class's list has them -/
theorem fcS_m {M : Me} {p : Int} : ∀ i k : Nat, (fcS M p i).1 ≤ (fcS M p (i + k)).1 := by
  intro i k
  induction k with
  | zero => exact Nat.le_refl _
  | succ k ih =>
    by_cases h : M 209 ((i + k : Nat) : Int) = p
    · rw [show i + (k + 1) = i + k + 1 from rfl, fcS_t h]; exact Nat.le_succ_of_le ih
    · rw [show i + (k + 1) = i + k + 1 from rfl, fcS_f h]; exact ih
theorem fcS_x {M : Me} {p : Int} {c : Nat} (h : M 209 (c : Int) = p) : ∀ k : Nat, (fcS M p (c + 1 + k)).2 ((fcS M p c).1 : Int) = c ∧ (fcS M p c).1 < (fcS M p (c + 1 + k)).1 := by
  intro k
  induction k with
  | zero =>
    rw [show c + 1 + 0 = c + 1 from rfl, fcS_t h]
    exact ⟨if_pos rfl, Nat.lt_succ_self _⟩
  | succ k ih =>
    by_cases w : M 209 ((c + 1 + k : Nat) : Int) = p
    · rw [show c + 1 + (k + 1) = c + 1 + k + 1 from rfl, fcS_t w]
      refine ⟨?_, Nat.lt_succ_of_lt ih.2⟩
      show upf _ _ _ _ = _
      unfold upf
      rw [if_neg (by omega)]
      exact ih.1
    · rw [show c + 1 + (k + 1) = c + 1 + k + 1 from rfl, fcS_f w]
      exact ih
theorem fiL_0 {M : Me} {c t : Int} {L : Int → Int} : ∀ k : Nat, fiL M c t L k = 0 ↔ ∃ j : Nat, j < k ∧ (inS M c (j : Int) ∧ L (j : Int) - t * M 211 c < 0) := by
  intro k
  induction k with
  | zero => exact ⟨fun h => absurd h (by show ¬ (1 : Int) = 0; decide), fun ⟨j, h, _⟩ => absurd h (Nat.not_lt_zero j)⟩
  | succ k ih =>
    by_cases q : inS M c (k : Int) ∧ L (k : Int) - t * M 211 c < 0
    · rw [fiL_z q]
      exact ⟨fun _ => ⟨k, by omega, q⟩, fun _ => rfl⟩
    · rw [fiL_n q, ih]
      constructor
      · rintro ⟨j, h, w⟩; exact ⟨j, by omega, w⟩
      · rintro ⟨j, h, w⟩
        refine ⟨j, ?_, w⟩
        by_cases e : j = k
        · subst e; exact absurd w q
        · omega
