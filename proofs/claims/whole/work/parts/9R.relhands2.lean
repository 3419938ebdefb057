theorem cdv_cut2 {c b d : Int} (hb : 1 ≤ b) (hd : 0 ≤ d ∧ d < b) : ∀ t : Nat, cdv (c * b + d) b (t + 1) = cdv c b t := by
  intro t
  induction t with
  | zero => exact (cdv_cut hb hd).1
  | succ t ih => show cdv (c * b + d) b (t + 1) / b = cdv c b t / b; rw [ih]
theorem dig_cut {c b d : Int} (hb : 1 ≤ b) (hd : 0 ≤ d ∧ d < b) (t : Nat) : dig (c * b + d) b (t + 1) = dig c b t ∧ dig (c * b + d) b 0 = d := by
  refine ⟨?_, (cdv_cut hb hd).2⟩
  unfold dig; rw [cdv_cut2 hb hd]
/-- the code behind a first choice -/
def gcH (hr : Int → Int) (b n k : Nat) (e : Int) (E : Int → Int) (c : Int) (j : Nat) : Int := gqH hr b n k (max e (E (j : Int) + hr ((n : Int) - k - 1))) (upf E (j : Int) (E (j : Int) + hr ((n : Int) - k - 1))) (c * b + j)
theorem gqH_s {hr : Int → Int} {b n k : Nat} {e : Int} {E : Int → Int} {c : Int} : gqH hr b n (k + 1) e E c = gcH hr b n k e E c (agH (chH hr b n k e E) (b - 1)) := rfl
/-- what the search does to the soonest, the best and the laid -/
def lfP (o : Int) (q : Int) (b n k : Nat) (s s' : LS3) : Prop := (o < s.1 → s'.1 = o ∧ ∀ i : Nat, i < n → s'.2.1 (i : Int) = dig q b (n - 1 - i)) ∧ (¬ o < s.1 → s'.1 = s.1 ∧ s'.2.1 = s.2.1) ∧ ∀ i : Nat, i + k < n → s'.2.2 (i : Int) = s.2.2 (i : Int)
/-- the class's search finds the first code that ends soonest -/
theorem lf_p {hr : Int → Int} {b n : Nat} (hb : 1 ≤ b ∧ b ≤ 4) : ∀ (k : Nat) (u e : Int) (E : Int → Int) (c : Int) (s : LS3), k ≤ n → 0 ≤ u → (∀ h : Nat, u ≤ h → h < b → E (h : Int) = 0) → (∀ i : Nat, i + k < n → s.2.2 (i : Int) = dig c b (n - k - 1 - i)) → lfP (optH hr b n k e E) (gqH hr b n k e E c) b n k s (lf3 hr (b : Int) n k u e E s) := by
  intro k
  induction k with
  | zero =>
    intro u e E c s hk hu hE hl
    by_cases q : s.1 ≤ e
    · rw [lf3_e q]
      exact ⟨fun w => absurd w (by show ¬ e < s.1; omega), fun _ => ⟨rfl, rfl⟩, fun _ _ => rfl⟩
    · have e9 : lf3 hr (b : Int) n 0 u e E s = (e, s.2.2, s.2.2) := if_neg q
      rw [e9]
      refine ⟨fun _ => ⟨rfl, fun i hi => ?_⟩, fun w => absurd (show e < s.1 by omega) w, fun _ _ => rfl⟩
      have := hl i (by omega)
      rw [show n - 0 - 1 - i = n - 1 - i by omega] at this
      exact this
  | succ k ih =>
    intro u e E c s hk hu hE hl
    by_cases q : s.1 ≤ e
    · rw [lf3_e q]
      have := optH_e (hr := hr) (b := b) (n := n) (k + 1) e E
      exact ⟨fun w => absurd w (by omega), fun _ => ⟨rfl, rfl⟩, fun _ _ => rfl⟩
    · rw [lf3_s q]
      have one : ∀ (j : Nat) (t : LS3), (j : Int) ≤ u → j < b → (∀ i : Nat, i + (k + 1) < n → t.2.2 (i : Int) = s.2.2 (i : Int)) → (chH hr b n k e E j < t.1 → (lfh hr (b : Int) n k u e E (j : Int) t).1 = chH hr b n k e E j ∧ ∀ i : Nat, i < n → (lfh hr (b : Int) n k u e E (j : Int) t).2.1 (i : Int) = dig (gcH hr b n k e E c j) b (n - 1 - i)) ∧ (¬ chH hr b n k e E j < t.1 → (lfh hr (b : Int) n k u e E (j : Int) t).1 = t.1 ∧ (lfh hr (b : Int) n k u e E (j : Int) t).2.1 = t.2.1) ∧ ∀ i : Nat, i + (k + 1) < n → (lfh hr (b : Int) n k u e E (j : Int) t).2.2 (i : Int) = s.2.2 (i : Int) := fun j t h1 h2 h3 => by
        have ef : lfh hr (b : Int) n k u e E (j : Int) t = lf3 hr (b : Int) n k (max u ((j : Int) + 1)) (max e (E (j : Int) + hr ((n : Int) - k - 1))) (upf E (j : Int) (E (j : Int) + hr ((n : Int) - k - 1))) (t.1, t.2.1, upf t.2.2 ((n : Int) - k - 1) (j : Int)) := if_pos ⟨h1, by omega⟩
        rw [ef]
        obtain ⟨i1, i2, i3⟩ := ih (max u ((j : Int) + 1)) (max e (E (j : Int) + hr ((n : Int) - k - 1))) (upf E (j : Int) (E (j : Int) + hr ((n : Int) - k - 1))) (c * b + j) (t.1, t.2.1, upf t.2.2 ((n : Int) - k - 1) (j : Int)) (by omega) (by omega) (fun h g1 g2 => by
          unfold upf
          rw [if_neg (by omega)]
          exact hE h (by omega) g2) (fun i hi => by
          show upf t.2.2 ((n : Int) - k - 1) (j : Int) (i : Int) = _
          unfold upf
          by_cases g : i + k + 1 = n
          · rw [if_pos (by omega), show n - k - 1 - i = 0 by omega]
            exact (dig_cut (b := (b : Int)) (by omega) (by omega) 0).2.symm
          · rw [if_neg (by omega), h3 i (by omega), hl i (by omega), show n - k - 1 - i = n - (k + 1) - 1 - i + 1 by omega]
            exact (dig_cut (b := (b : Int)) (by omega) (by omega) _).1.symm)
        refine ⟨i1, i2, fun i hi => ?_⟩
        rw [i3 i (by omega)]
        show upf t.2.2 ((n : Int) - k - 1) (j : Int) (i : Int) = _
        unfold upf
        rw [if_neg (by omega)]
        exact h3 i hi
      obtain ⟨m, m1, m2, m3⟩ : ∃ m : Nat, (m : Int) ≤ u ∧ m < b ∧ ((m : Int) = u ∨ m + 1 = b) := by
        by_cases g : u < (b : Int) - 1
        · exact ⟨u.toNat, by omega, by omega, Or.inl (by omega)⟩
        · exact ⟨b - 1, by omega, by omega, Or.inr (by omega)⟩
      have loop : ∀ j : Nat, j ≤ m → (mnH (chH hr b n k e E) j < s.1 → (hlp (lfh hr (b : Int) n k u e E) (j + 1) s).1 = mnH (chH hr b n k e E) j ∧ ∀ i : Nat, i < n → (hlp (lfh hr (b : Int) n k u e E) (j + 1) s).2.1 (i : Int) = dig (gcH hr b n k e E c (agH (chH hr b n k e E) j)) b (n - 1 - i)) ∧ (¬ mnH (chH hr b n k e E) j < s.1 → (hlp (lfh hr (b : Int) n k u e E) (j + 1) s).1 = s.1 ∧ (hlp (lfh hr (b : Int) n k u e E) (j + 1) s).2.1 = s.2.1) ∧ ∀ i : Nat, i + (k + 1) < n → (hlp (lfh hr (b : Int) n k u e E) (j + 1) s).2.2 (i : Int) = s.2.2 (i : Int) := by
        intro j
        induction j with
        | zero => intro _; exact one 0 s (by omega) (by omega) (fun _ _ => rfl)
        | succ j jh =>
          intro hj
          obtain ⟨j1, j2, j3⟩ := jh (by omega)
          have o := one (j + 1) (hlp (lfh hr (b : Int) n k u e E) (j + 1) s) (by omega) (by omega) j3
          have eh : hlp (lfh hr (b : Int) n k u e E) (j + 1 + 1) s = lfh hr (b : Int) n k u e E ((j + 1 : Nat) : Int) (hlp (lfh hr (b : Int) n k u e E) (j + 1) s) := rfl
          rw [← eh] at o
          obtain ⟨o1, o2, o3⟩ := o
          have em : mnH (chH hr b n k e E) (j + 1) = if chH hr b n k e E (j + 1) < mnH (chH hr b n k e E) j then chH hr b n k e E (j + 1) else mnH (chH hr b n k e E) j := rfl
          have ea : agH (chH hr b n k e E) (j + 1) = if chH hr b n k e E (j + 1) < mnH (chH hr b n k e E) j then j + 1 else agH (chH hr b n k e E) j := rfl
          rw [em, ea]
          refine ⟨?_, ?_, o3⟩
          · intro w
            by_cases g : chH hr b n k e E (j + 1) < mnH (chH hr b n k e E) j
            · rw [if_pos g] at w
              rw [if_pos g, if_pos g]
              refine o1 ?_
              by_cases g2 : mnH (chH hr b n k e E) j < s.1
              · rw [(j1 g2).1]; exact g
              · rw [(j2 g2).1]; exact w
            · rw [if_neg g] at w
              rw [if_neg g, if_neg g]
              have := o2 (by rw [(j1 w).1]; exact g)
              rw [this.1, this.2]
              exact j1 w
          · intro w
            by_cases g : chH hr b n k e E (j + 1) < mnH (chH hr b n k e E) j
            · rw [if_pos g] at w
              have h2 := j2 (by omega)
              have := o2 (by rw [h2.1]; exact w)
              rw [this.1, this.2]
              exact h2
            · rw [if_neg g] at w
              have h2 := j2 w
              have := o2 (by rw [h2.1]; omega)
              rw [this.1, this.2]
              exact h2
      have e4 : hlp (lfh hr (b : Int) n k u e E) 4 s = hlp (lfh hr (b : Int) n k u e E) (m + 1) s := by
        have := hlp_n (hr := hr) (hd := (b : Int)) (n := n) (k := k) (u := u) (e := e) (E := E) (s := s) (h := m + 1) (by omega) (3 - m)
        rwa [show m + 1 + (3 - m) = 4 by omega] at this
      have ee : mnH (chH hr b n k e E) (b - 1) = mnH (chH hr b n k e E) m ∧ agH (chH hr b n k e E) (b - 1) = agH (chH hr b n k e E) m := by
        rcases m3 with m3 | m3
        · have := mnH_t (g := chH hr b n k e E) (u := m) (b - 1 - m) (fun i g1 g2 => ch_alike (by omega) m2 ((hE i (by omega) (by omega)).trans (hE m (by omega) m2).symm))
          rwa [show m + (b - 1 - m) = b - 1 by omega] at this
        · rw [show b - 1 = m by omega]; exact ⟨rfl, rfl⟩
      rw [e4, optH_s, gqH_s, ee.1, ee.2]
      exact loop m (Nat.le_refl m)
/-- the reference's first best code -/
theorem hbS_p {v : Int → Int} : ∀ K : Nat, (∀ q : Nat, q < K → v q < 1000000000) → 1 ≤ K → (hbS v K).2 = v (hbS v K).1 ∧ (0 ≤ (hbS v K).1 ∧ (hbS v K).1 < K) ∧ (∀ p : Nat, p < K → (hbS v K).2 ≤ v p) ∧ ∀ p : Nat, (p : Int) < (hbS v K).1 → (hbS v K).2 < v p := by
  intro K
  induction K with
  | zero => intro _ h; exact absurd h (by decide)
  | succ K ih =>
    intro h _
    by_cases k0 : K = 0
    · subst k0
      have e : hbS v (0 + 1) = (((0 : Nat) : Int), v ((0 : Nat) : Int)) := hbS_t (v := v) (q := 0) (h 0 (by decide))
      rw [e]
      refine ⟨rfl, ⟨Int.le_refl 0, by show ((0 : Nat) : Int) < ((0 + 1 : Nat) : Int); decide⟩, fun p hp => ?_, fun p hp => absurd hp (by show ¬ (p : Int) < ((0 : Nat) : Int); omega)⟩
      obtain rfl : p = 0 := by omega
      exact Int.le_refl _
    · obtain ⟨a, b, c, d⟩ := ih (fun q hq => h q (by omega)) (by omega)
      by_cases q : v K < (hbS v K).2
      · rw [hbS_t q]
        refine ⟨rfl, ⟨by show (0 : Int) ≤ (K : Int); omega, by show (K : Int) < ((K + 1 : Nat) : Int); omega⟩, fun p hp => ?_, fun p hp => ?_⟩
        · show v K ≤ v p
          by_cases g : p = K
          · subst g; exact Int.le_refl _
          · have := c p (by omega); omega
        · show v K < v p
          have hp : (p : Int) < (K : Int) := hp
          have := c p (by omega); omega
      · rw [hbS_f q]
        refine ⟨a, ⟨b.1, by omega⟩, fun p hp => ?_, d⟩
        by_cases g : p = K
        · subst g; omega
        · exact c p (by omega)
theorem mxS_m {Y : Int → Int} {q : Nat} : mxS Y (q + 1) = max (mxS Y q) (Y q) := by
  by_cases h : mxS Y q < Y q
  · rw [mxS_t h]; omega
  · rw [mxS_f h]; omega
theorem mxS_c {Y Z : Int → Int} : ∀ m : Nat, (∀ i : Nat, i < m → Y i = Z i) → mxS Y m = mxS Z m := by
  intro m
  induction m with
  | zero => intro _; rfl
  | succ m ih => intro h; rw [mxS_m, mxS_m, ih (fun i hi => h i (by omega)), h m (by omega)]
theorem mxS_u {Y : Int → Int} {d : Nat} {v : Int} (hv : Y d ≤ v) : ∀ m : Nat, mxS (upf Y (d : Int) v) m = if d < m then max (mxS Y m) v else mxS Y m := by
  intro m
  induction m with
  | zero => rw [if_neg (by omega)]; rfl
  | succ m ih =>
    rw [mxS_m, mxS_m, ih]
    unfold upf
    by_cases e : m = d
    · subst e; rw [if_neg (by omega), if_pos rfl, if_pos (by omega)]; omega
    · rw [if_neg (show ¬ (m : Int) = (d : Int) by omega)]
      by_cases g : d < m
      · rw [if_pos g, if_pos (by omega)]; omega
      · rw [if_neg g, if_neg (by omega)]
/-- the end by a code, from the greatest digit on and from the least -/
theorem vq_mx {hr : Int → Int} {b n : Nat} (hb : 1 ≤ b) {q : Int} (h0 : ∀ i : Int, 0 ≤ i → i < n → 0 ≤ hr i) : ∀ (k : Nat) (e : Int) (E : Int → Int), k ≤ n → e = mxS E b → vqH hr b n q k e E = mxS (fun h => E h + hY n hr q b k h) b := by
  intro k
  induction k with
  | zero =>
    intro e E _ he
    show e = _
    rw [he]
    exact mxS_c b (fun i _ => by show E i = E i + 0; omega)
  | succ k ih =>
    intro e E hk he
    have db := dig_b (q := q) (b := (b : Int)) (by omega) k
    obtain ⟨d, hd⟩ := Int.eq_ofNat_of_zero_le db.1
    have hd : dig q b k = (d : Int) := hd
    have w := h0 ((n : Int) - k - 1) (by omega) (by omega)
    show vqH hr b n q k (max e (E (dig q b k) + hr ((n : Int) - k - 1))) (upf E (dig q b k) (E (dig q b k) + hr ((n : Int) - k - 1))) = _
    rw [hd, ih _ (upf E (d : Int) (E (d : Int) + hr ((n : Int) - k - 1))) (by omega) (by rw [mxS_u (by omega), if_pos (by omega), he])]
    refine mxS_c b (fun i _ => ?_)
    show upf E (d : Int) (E (d : Int) + hr ((n : Int) - k - 1)) (i : Int) + hY n hr q b k (i : Int) = E (i : Int) + (if (i : Int) = dig q b k then hY n hr q b k (i : Int) + hr ((n : Int) - 1 - k) else hY n hr q b k (i : Int))
    rw [hd]
    unfold upf
    by_cases g : (i : Int) = (d : Int)
    · rw [if_pos g, if_pos g, g, show (n : Int) - 1 - k = (n : Int) - k - 1 by omega]; omega
    · rw [if_neg g, if_neg g]
theorem hY_c {n : Nat} {f g : Int → Int} {q b : Int} (h : ∀ i : Int, 0 ≤ i → i < n → f i = g i) : ∀ (k : Nat) (x : Int), k ≤ n → hY n f q b k x = hY n g q b k x := by
  intro k
  induction k with
  | zero => intro x _; rfl
  | succ k ih =>
    intro x hk
    show (if x = dig q b k then hY n f q b k x + f ((n : Int) - 1 - k) else hY n f q b k x) = (if x = dig q b k then hY n g q b k x + g ((n : Int) - 1 - k) else hY n g q b k x)
    rw [ih x (by omega), h ((n : Int) - 1 - k) (by omega) (by omega)]
theorem opt_b {hr : Int → Int} {b n : Nat} (h0 : ∀ i : Int, 0 ≤ i → i < n → hr i ≤ 99) : ∀ (k : Nat) (e : Int) (E : Int → Int), k ≤ n → E ((0 : Nat) : Int) ≤ e → optH hr b n k e E ≤ e + 99 * k := by
  intro k
  induction k with
  | zero => intro e E _ _; show e ≤ _; omega
  | succ k ih =>
    intro e E hk he
    have w := h0 ((n : Int) - k - 1) (by omega) (by omega)
    have l := mnH_le (g := chH hr b n k e E) (b - 1) 0 (Nat.zero_le _)
    have i := ih (max e (E ((0 : Nat) : Int) + hr ((n : Int) - k - 1))) (upf E ((0 : Nat) : Int) (E ((0 : Nat) : Int) + hr ((n : Int) - k - 1))) (by omega) (by unfold upf; rw [if_pos rfl]; omega)
    rw [optH_s]
    have e9 : chH hr b n k e E 0 = optH hr b n k (max e (E ((0 : Nat) : Int) + hr ((n : Int) - k - 1))) (upf E ((0 : Nat) : Int) (E ((0 : Nat) : Int) + hr ((n : Int) - k - 1))) := rfl
    rw [← e9] at i
    omega
theorem cdv_pw {b : Int} (hb : 1 ≤ b) {n : Nat} : ∀ k : Nat, k ≤ n → cdv (pwI b n) b k = pwI b (n - k) ∧ cdv (pwI b n - 1) b k = pwI b (n - k) - 1 := by
  intro k
  induction k with
  | zero => intro _; exact ⟨rfl, rfl⟩
  | succ k ih =>
    intro hk
    obtain ⟨a, c⟩ := ih (by omega)
    have e : pwI b (n - k) = pwI b (n - (k + 1)) * b := by rw [show n - k = n - (k + 1) + 1 by omega]; rfl
    refine ⟨?_, ?_⟩
    · show cdv (pwI b n) b k / b = _
      rw [a, e, Int.mul_ediv_cancel _ (by omega)]
    · show cdv (pwI b n - 1) b k / b = _
      rw [c, e, show pwI b (n - (k + 1)) * b - 1 = (pwI b (n - (k + 1)) - 1) * b + (b - 1) by rw [Int.sub_mul]; omega]
      exact (cdv_cut hb (by omega)).1
theorem cdv_neg {b : Int} (hb : 1 ≤ b ∧ b ≤ 4) {q : Int} (hq : q < 0) : ∀ k : Nat, cdv q b k < 0 := by
  intro k
  induction k with
  | zero => exact hq
  | succ k ih =>
    show cdv q b k / b < 0
    rcases (show b = 1 ∨ b = 2 ∨ b = 3 ∨ b = 4 by omega) with g | g | g | g <;> rw [g] at ih ⊢ <;> omega
theorem cdv_0 {b : Int} (hb : 1 ≤ b ∧ b ≤ 4) {q : Int} {n : Nat} : cdv q b n = 0 ↔ 0 ≤ q ∧ q < pwI b n := by
  obtain ⟨a, c⟩ := cdv_pw (b := b) hb.1 (n := n) n (Nat.le_refl n)
  rw [Nat.sub_self] at a c
  have a : cdv (pwI b n) b n = 1 := a
  have c : cdv (pwI b n - 1) b n = 0 := c
  constructor
  · intro h
    refine ⟨Int.not_lt.mp (fun g => by have := cdv_neg hb g n; omega), Int.not_le.mp (fun g => ?_)⟩
    have := cdv_mono (b := b) hb.1 g n
    omega
  · rintro ⟨h1, h2⟩
    have := cdv_mono (b := b) hb.1 (show q ≤ pwI b n - 1 by omega) n
    have := (cdv_b (q := q) (b := b) h1 hb.1 n).1
    omega
/-- both find the same -/
theorem ha_eq {hr bd : Int → Int} {b n : Nat} (hb : 1 ≤ b ∧ b ≤ 4) (hn : n ≤ 8) (h0 : ∀ i : Int, 0 ≤ i → i < n → 0 ≤ hr i ∧ hr i ≤ 99) (he : ∀ i : Int, 0 ≤ i → i < n → bd i = hr i) {B L : Int → Int} : (lf3 hr (b : Int) n n 0 0 (fun _ => 0) (1000000, B, L)).1 = mxS (hY n bd (hbS (fun q => mxS (hY n bd q b n) b) (pwI b n).toNat).1 b n) b ∧ ∀ i : Nat, i < n → (lf3 hr (b : Int) n n 0 0 (fun _ => 0) (1000000, B, L)).2.1 (i : Int) = dig (hbS (fun q => mxS (hY n bd q b n) b) (pwI b n).toNat).1 b (n - 1 - i) := by
  have ob := opt_b (hr := hr) (b := b) (n := n) (fun i a c => (h0 i a c).2) n 0 (fun _ => 0) (Nat.le_refl n) (Int.le_refl 0)
  have mz : (0 : Int) = mxS (fun _ => 0) b := by
    have : ∀ m : Nat, mxS (fun _ => 0) m = 0 := fun m => by
      induction m with
      | zero => rfl
      | succ m ih => rw [mxS_m, ih]; rfl
    exact (this b).symm
  have hv : ∀ q : Int, vqH hr b n q n 0 (fun _ => 0) = mxS (hY n bd q b n) b := fun q => by
    rw [vq_mx hb.1 (fun i a c => (h0 i a c).1) n 0 (fun _ => 0) (Nat.le_refl n) mz]
    exact mxS_c b (fun i _ => by show 0 + hY n hr q b n i = _; rw [Int.zero_add, hY_c he n _ (Nat.le_refl n)])
  obtain ⟨g1, g2, g3⟩ := gq_p (hr := hr) (b := b) (n := n) hb.1 n 0 (fun _ => 0) 0
  have gb := (cdv_0 (b := (b : Int)) (by omega)).mp g2
  have l := lf_p (hr := hr) (b := b) (n := n) hb n 0 0 (fun _ => 0) 0 (1000000, B, L) (Nat.le_refl n) (Int.le_refl 0) (fun _ _ _ => rfl) (fun i hi => absurd hi (by omega))
  have l1 := l.1 (by show optH hr b n n 0 (fun _ => 0) < 1000000; omega)
  have hpos : 1 ≤ (pwI (b : Int) n).toNat := by omega
  have vb : ∀ q : Nat, q < (pwI (b : Int) n).toNat → (fun q => mxS (hY n bd q b n) b) (q : Int) < 1000000000 := fun q _ => by
    show mxS (hY n bd (q : Int) b n) b < 1000000000
    have hb9 := hY_b (n := n) (bd := bd) (q := (q : Int)) (b := (b : Int)) (fun i a c => by rw [he i a c]; exact h0 i a c)
    have : ∀ m : Nat, mxS (hY n bd (q : Int) b n) m ≤ 99 * n := fun m => by
      induction m with
      | zero => show (0 : Int) ≤ _; omega
      | succ m ih => rw [mxS_m]; have := (hb9 (m : Int) n (Nat.le_refl n)).2; omega
    have := this b
    omega
  obtain ⟨p1, p2, p3, p4⟩ := hbS_p (v := fun q => mxS (hY n bd q b n) b) (pwI (b : Int) n).toNat vb hpos
  have eq : (hbS (fun q => mxS (hY n bd q b n) b) (pwI (b : Int) n).toNat).1 = gqH hr b n n 0 (fun _ => 0) 0 := by
    generalize hS : hbS (fun q => mxS (hY n bd q b n) b) (pwI (b : Int) n).toNat = S at p1 p2 p3 p4
    have c0 : cdv S.1 (b : Int) n = 0 := (cdv_0 (by omega)).mpr (by omega)
    have k := g1 S.1 c0
    rw [hv S.1] at k
    have p1 : S.2 = mxS (hY n bd S.1 b n) b := p1
    obtain ⟨G, hG⟩ := Int.eq_ofNat_of_zero_le gb.1
    have hG : gqH hr b n n 0 (fun _ => 0) 0 = (G : Int) := hG
    have q3 := p3 G (by omega)
    have q3 : S.2 ≤ mxS (hY n bd (G : Int) b n) b := q3
    have g3' := g3
    rw [hv, hG] at g3'
    rw [hG] at k ⊢
    have n1 : ¬ S.1 < (G : Int) := fun w => by have := k.2 w; omega
    have n2 : ¬ (G : Int) < S.1 := fun w => by
      have := p4 G w
      have : S.2 < mxS (hY n bd (G : Int) b n) b := this
      omega
    omega
  rw [eq]
  refine ⟨?_, l1.2⟩
  rw [l1.1, ← g3, hv]
theorem ha_o {M : Me} {n : Nat} {q : Int} {a j : Int} (h : ¬ (4 ≤ a ∧ a ≤ 7)) : haM M n q a j = M a j := (laM_o (by omega)).trans (up_ne (by omega))
/-- HANDS -/
theorem op_hands {M : Me} (h : INV M) {m i : Int} : OpR kX10_hands kX11_hands 12 1 [(0, m), (0, i)] M := by
  obtain ⟨-, ⟨a5, b5⟩, -⟩ := h.1.1.2.2.2.2.2.o
  have w5 := wa_5 h.1.hy.1
  obtain ⟨n, h5⟩ := Int.eq_ofNat_of_zero_le w5.1
  have h5 : M 430 5 = (n : Int) := h5
  have hn8 : n ≤ 8 := by omega
  have bd : ∀ j : Int, 0 ≤ j → j < n → 0 ≤ M 430 (130 + j) ∧ M 430 (130 + j) ≤ 99 := fun j g0 g1 => wb_0 h.1.hy.1 (by omega)
  have hr : ∀ j : Int, 0 ≤ j → j < n → M 430 (130 + j) = M 220 j := fun j g0 g1 => (b5 j g0 (by omega)).symm
  have bC : ∀ j : Int, 0 ≤ j → j < n → 0 ≤ M 220 j ∧ M 220 j ≤ 99 := fun j g0 g1 => by rw [← hr j g0 g1]; exact bd j g0 g1
  have c9 : ∀ x y z : Int, _ := fun x y z => f_hands (x := x) (y := y) (z := z) (q := m) (i := i) (a5.trans h5) hn8 bC
  have fo : ∀ a j : Int, ¬ (4 ≤ a ∧ a ≤ 7) → fhaM M n m i a j = M a j := fun a j q => by
    unfold fhaM
    split
    · rfl
    · exact ha_o q
  by_cases q : (1 ≤ m ∧ m ≤ 4) ∧ (-1 ≤ i ∧ i ≤ M 430 5 - 1)
  · obtain ⟨k, hk⟩ := Int.eq_ofNat_of_zero_le (show 0 ≤ m by omega)
    have hk : m = (k : Int) := hk
    subst hk
    have E := ha_eq (hr := fun j => M 220 j) (bd := fun j => M 430 (130 + j)) (b := k) (n := n) (by omega) hn8 bC hr (B := fun j => M 5 j) (L := fun j => M 7 j)
    have eV : fhaV M n (k : Int) i = if i = -1 then enV M n k (hbS (enV M n k) (pwI k n).toNat).1 else dig (hbS (enV M n k) (pwI k n).toNat).1 k (n - 1 - i).toNat := by
      unfold fhaV
      rw [if_neg (by unfold fhP; rw [a5]; omega)]
      by_cases g : i = -1
      · rw [if_pos g, if_pos g]
        exact laM_0.trans E.1
      · rw [if_neg g, if_neg g]
        obtain ⟨t, ht⟩ := Int.eq_ofNat_of_zero_le (show 0 ≤ i by omega)
        have ht : i = (t : Int) := ht
        subst ht
        refine (laM_B (by omega)).trans ((E.2 t (by omega)).trans ?_)
        rw [show ((n : Int) - 1 - (t : Int)).toNat = n - 1 - t by omega]; rfl
    rw [eV] at c9
    generalize hf : fhaM M n (k : Int) i = f at fo c9
    have e430 : f 430 = M 430 := funext fun j => fo 430 j (by decide)
    have en : ∀ a : Int, enV f n k a = enV M n k a := fun a => by unfold enV; rw [e430]
    have enf : enV f n k = enV M n k := funext en
    have h2 : rlR M f → rlR f f := fun h1 => h1.c (fun a j q => fo a j (by unfold scrC at q; omega)) (fun j g0 g1 => by rw [fo 10 j (by decide)]; exact h.1.2.2.2.2.1.2 j g0 g1)
    refine OpR.mk (f := f) (g := enM f (hX n (hbS (enV M n k) (pwI k n).toNat).1 k (fun c => f 439 c) n) (hY n (fun i => M 430 (130 + i)) (hbS (enV M n k) (pwI k n).toNat).1 k n)) h (fun x y z => ⟨x, y, _, c9 x y z⟩) (fun a j w => fo a j (by omega)) (fun h1 x y z => ?_) (fun _ a j w => enM_o (by omega)) (fun h1 => (h2 h1).a (fun a j q0 q1 => enM_o (by omega))) (fun _ d0 d1 => ⟨d0.row (fun j => enM_o (by omega)), d1.row (fun j => enM_o (by omega))⟩)
    refine (m_hands (M := f) (n := n) (by rw [e430]; exact h5) hn8 (by rw [e430]; exact bd)).at (fun v9 S9 M9 w => ?_)
    rw [e430] at w
    obtain ⟨w0, ⟨-, k', w1, w2, w3⟩ | ⟨w1, -⟩⟩ := w
    · obtain rfl : k = k' := by omega
      rw [enf] at w2 w3
      refine ⟨?_, w0, w2⟩
      rcases w3 with ⟨p1, p2⟩ | ⟨p1, p2⟩
      · rw [if_pos p1]; exact p2
      · rw [if_neg p1]; exact p2
    · exact absurd q w1
  · have e1 : fhP M m i := by unfold fhP; rw [a5]; omega
    have eV : fhaV M n m i = -2 := by unfold fhaV; rw [if_pos e1]
    rw [eV] at c9
    generalize hf : fhaM M n m i = f at fo c9
    have e430 : f 430 = M 430 := funext fun j => fo 430 j (by decide)
    have h2 : rlR M f → rlR f f := fun h1 => h1.c (fun a j q => fo a j (by unfold scrC at q; omega)) (fun j g0 g1 => by rw [fo 10 j (by decide)]; exact h.1.2.2.2.2.1.2 j g0 g1)
    refine OpR.mk (f := f) (g := f) h (fun x y z => ⟨x, y, _, c9 x y z⟩) (fun a j w => fo a j (by omega)) (fun h1 x y z => ?_) (fun _ _ _ _ => rfl) h2 (fun _ d0 d1 => ⟨d0, d1⟩)
    refine (m_hands (M := f) (n := n) (by rw [e430]; exact h5) hn8 (by rw [e430]; exact bd)).at (fun v9 S9 M9 w => ?_)
    rw [e430] at w
    obtain ⟨w0, ⟨w1, -⟩ | ⟨-, w2, w3⟩⟩ := w
    · exact absurd w1 q
    · exact ⟨w2, w0, w3⟩
