/-- the least of g 0 .. g m, and where it is first -/
def mnH (g : Nat → Int) : Nat → Int
  | 0 => g 0
  | m + 1 => if g (m + 1) < mnH g m then g (m + 1) else mnH g m
def agH (g : Nat → Int) : Nat → Nat
  | 0 => 0
  | m + 1 => if g (m + 1) < mnH g m then m + 1 else agH g m
theorem mnH_le {g : Nat → Int} : ∀ m i : Nat, i ≤ m → mnH g m ≤ g i := by
  intro m
  induction m with
  | zero => intro i hi; obtain rfl : i = 0 := by omega
            exact Int.le_refl _
  | succ m ih =>
    intro i hi
    unfold mnH
    by_cases e : i = m + 1
    · subst e; split <;> omega
    · have := ih i (by omega); split <;> omega
theorem agH_p {g : Nat → Int} : ∀ m : Nat, agH g m ≤ m ∧ g (agH g m) = mnH g m ∧ ∀ i : Nat, i < agH g m → mnH g m < g i := by
  intro m
  induction m with
  | zero => exact ⟨Nat.le_refl 0, rfl, fun i h => absurd h (Nat.not_lt_zero i)⟩
  | succ m ih =>
    obtain ⟨a, b, c⟩ := ih
    unfold mnH agH
    by_cases q : g (m + 1) < mnH g m
    · rw [if_pos q, if_pos q]
      exact ⟨Nat.le_refl _, rfl, fun i h => by have := mnH_le (g := g) m i (by omega); omega⟩
    · rw [if_neg q, if_neg q]
      exact ⟨by omega, b, c⟩
theorem mnH_c {g f : Nat → Int} : ∀ m : Nat, (∀ i : Nat, i ≤ m → g i = f i) → mnH g m = mnH f m ∧ agH g m = agH f m := by
  intro m
  induction m with
  | zero => intro h; exact ⟨h 0 (Nat.le_refl 0), rfl⟩
  | succ m ih =>
    intro h
    obtain ⟨a, b⟩ := ih (fun i hi => h i (by omega))
    unfold mnH agH
    rw [a, b, h (m + 1) (Nat.le_refl _)]
    exact ⟨rfl, rfl⟩
theorem mnH_t {g : Nat → Int} {u : Nat} : ∀ d : Nat, (∀ i : Nat, u < i → i ≤ u + d → g i = g u) → mnH g (u + d) = mnH g u ∧ agH g (u + d) = agH g u := by
  intro d
  induction d with
  | zero => intro _; exact ⟨rfl, rfl⟩
  | succ d ih =>
    intro h
    obtain ⟨a, b⟩ := ih (fun i h1 h2 => h i h1 (by omega))
    have e := h (u + d + 1) (by omega) (by omega)
    have l := mnH_le (g := g) u u (Nat.le_refl u)
    show (if g (u + d + 1) < mnH g (u + d) then g (u + d + 1) else mnH g (u + d)) = mnH g u ∧ (if g (u + d + 1) < mnH g (u + d) then u + d + 1 else agH g (u + d)) = agH g u
    rw [if_neg (by rw [e, a]; omega), if_neg (by rw [e, a]; omega)]
    exact ⟨a, b⟩
/-- the soonest end, the last k of n pieces of work to lay -/
def optH (hr : Int → Int) (b n : Nat) : Nat → Int → (Int → Int) → Int
  | 0, e, _ => e
  | k + 1, e, E => mnH (fun h => optH hr b n k (max e (E (h : Int) + hr ((n : Int) - k - 1))) (upf E (h : Int) (E (h : Int) + hr ((n : Int) - k - 1)))) (b - 1)
/-- the soonest end below a first choice -/
def chH (hr : Int → Int) (b n k : Nat) (e : Int) (E : Int → Int) (h : Nat) : Int := optH hr b n k (max e (E (h : Int) + hr ((n : Int) - k - 1))) (upf E (h : Int) (E (h : Int) + hr ((n : Int) - k - 1)))
theorem optH_s {hr : Int → Int} {b n k : Nat} {e : Int} {E : Int → Int} : optH hr b n (k + 1) e E = mnH (chH hr b n k e E) (b - 1) := rfl
/-- the first code that ends soonest, behind the code c -/
def gqH (hr : Int → Int) (b n : Nat) : Nat → Int → (Int → Int) → Int → Int
  | 0, _, _, c => c
  | k + 1, e, E, c => gqH hr b n k (max e (E (agH (chH hr b n k e E) (b - 1) : Int) + hr ((n : Int) - k - 1))) (upf E (agH (chH hr b n k e E) (b - 1) : Int) (E (agH (chH hr b n k e E) (b - 1) : Int) + hr ((n : Int) - k - 1))) (c * b + (agH (chH hr b n k e E) (b - 1) : Int))
/-- the end when the work is laid by the code q -/
def vqH (hr : Int → Int) (b n : Nat) (q : Int) : Nat → Int → (Int → Int) → Int
  | 0, e, _ => e
  | k + 1, e, E => vqH hr b n q k (max e (E (dig q b k) + hr ((n : Int) - k - 1))) (upf E (dig q b k) (E (dig q b k) + hr ((n : Int) - k - 1)))
theorem optH_e {hr : Int → Int} {b n : Nat} : ∀ (k : Nat) (e : Int) (E : Int → Int), e ≤ optH hr b n k e E := by
  intro k
  induction k with
  | zero => intro e E; exact Int.le_refl e
  | succ k ih =>
    intro e E
    rw [optH_s, ← (agH_p (g := chH hr b n k e E) (b - 1)).2.1]
    have := ih (max e (E (agH (chH hr b n k e E) (b - 1) : Int) + hr ((n : Int) - k - 1))) (upf E (agH (chH hr b n k e E) (b - 1) : Int) (E (agH (chH hr b n k e E) (b - 1) : Int) + hr ((n : Int) - k - 1)))
    show e ≤ optH hr b n k _ _
    omega
theorem cdv_d {q b : Int} (hb : 1 ≤ b) {k : Nat} : cdv q b k = b * cdv q b (k + 1) + dig q b k := by
  show _ = b * (cdv q b k / b) + cdv q b k % b
  rw [Int.mul_ediv_add_emod]
theorem cdv_mono {q p b : Int} (hb : 1 ≤ b) (h : q ≤ p) : ∀ k : Nat, cdv q b k ≤ cdv p b k := by
  intro k
  induction k with
  | zero => exact h
  | succ k ih => exact Int.ediv_le_ediv (by omega) ih
theorem cdv_le {q p b : Int} (hb : 1 ≤ b) {k : Nat} (h : cdv q b k < cdv p b k) : q < p := Int.lt_of_not_ge (fun g => by have := cdv_mono (b := b) hb g k; omega)
theorem cdv_cut {c b d : Int} (hb : 1 ≤ b) (hd : 0 ≤ d ∧ d < b) : (c * b + d) / b = c ∧ (c * b + d) % b = d := by
  have e1 : (c * b + d) / b = c := by
    rw [Int.add_comm, Int.add_mul_ediv_right _ _ (by omega), Int.ediv_eq_zero_of_lt hd.1 hd.2, Int.zero_add]
  refine ⟨e1, ?_⟩
  have := Int.mul_ediv_add_emod (c * b + d) b
  rw [e1, Int.mul_comm b c] at this
  omega
/-- the soonest end is the least of all codes, and the first that has it is gqH -/
theorem gq_p {hr : Int → Int} {b n : Nat} (hb : 1 ≤ b) : ∀ (k : Nat) (e : Int) (E : Int → Int) (c : Int), (∀ q : Int, cdv q b k = c → optH hr b n k e E ≤ vqH hr b n q k e E ∧ (q < gqH hr b n k e E c → optH hr b n k e E < vqH hr b n q k e E)) ∧ cdv (gqH hr b n k e E c) b k = c ∧ vqH hr b n (gqH hr b n k e E c) k e E = optH hr b n k e E := by
  intro k
  induction k with
  | zero => intro e E c; exact ⟨fun q hq => ⟨Int.le_refl e, fun g => absurd g (by rw [show q = c from hq]; show ¬ c < c; omega)⟩, rfl, rfl⟩
  | succ k ih =>
    intro e E c
    obtain ⟨a1, a2, a3⟩ := agH_p (g := chH hr b n k e E) (b - 1)
    have i := ih (max e (E (agH (chH hr b n k e E) (b - 1) : Int) + hr ((n : Int) - k - 1))) (upf E (agH (chH hr b n k e E) (b - 1) : Int) (E (agH (chH hr b n k e E) (b - 1) : Int) + hr ((n : Int) - k - 1))) (c * b + (agH (chH hr b n k e E) (b - 1) : Int))
    have eg : gqH hr b n (k + 1) e E c = gqH hr b n k (max e (E (agH (chH hr b n k e E) (b - 1) : Int) + hr ((n : Int) - k - 1))) (upf E (agH (chH hr b n k e E) (b - 1) : Int) (E (agH (chH hr b n k e E) (b - 1) : Int) + hr ((n : Int) - k - 1))) (c * b + (agH (chH hr b n k e E) (b - 1) : Int)) := rfl
    rw [← eg] at i
    obtain ⟨i1, i2, i3⟩ := i
    have eo : optH hr b n (k + 1) e E = chH hr b n k e E (agH (chH hr b n k e E) (b - 1)) := optH_s.trans a2.symm
    have ct := cdv_cut (c := c) (b := (b : Int)) (d := (agH (chH hr b n k e E) (b - 1) : Int)) (by omega) (by omega)
    have dg : dig (gqH hr b n (k + 1) e E c) b k = (agH (chH hr b n k e E) (b - 1) : Int) := by unfold dig; rw [i2]; exact ct.2
    refine ⟨fun q hq => ?_, ?_, ?_⟩
    · have db := dig_b (q := q) (b := (b : Int)) (by omega) k
      have cq := cdv_d (q := q) (b := (b : Int)) (by omega) (k := k)
      rw [hq] at cq
      obtain ⟨d, hd⟩ := Int.eq_ofNat_of_zero_le db.1
      have hd : dig q b k = (d : Int) := hd
      have ev : vqH hr b n q (k + 1) e E = vqH hr b n q k (max e (E (d : Int) + hr ((n : Int) - k - 1))) (upf E (d : Int) (E (d : Int) + hr ((n : Int) - k - 1))) := by
        show vqH hr b n q k (max e (E (dig q b k) + hr ((n : Int) - k - 1))) (upf E (dig q b k) (E (dig q b k) + hr ((n : Int) - k - 1))) = _
        rw [hd]
      rw [hd] at cq
      rw [Int.mul_comm] at cq
      have j := (ih (max e (E (d : Int) + hr ((n : Int) - k - 1))) (upf E (d : Int) (E (d : Int) + hr ((n : Int) - k - 1))) (c * b + d)).1 q cq
      rw [← ev] at j
      have l := mnH_le (g := chH hr b n k e E) (b - 1) d (by omega)
      have jd : chH hr b n k e E d ≤ vqH hr b n q (k + 1) e E := j.1
      refine ⟨by rw [optH_s]; omega, fun g => ?_⟩
      by_cases e1 : d = agH (chH hr b n k e E) (b - 1)
      · rw [eo]
        subst e1
        exact (i1 q cq).2 g |> fun w => by
          have : optH hr b n k _ _ < vqH hr b n q k _ _ := w
          rw [ev]; exact this
      · by_cases e2 : d < agH (chH hr b n k e E) (b - 1)
        · have := a3 d e2
          rw [optH_s]; omega
        · have := cdv_le (q := gqH hr b n (k + 1) e E c) (p := q) (b := (b : Int)) (by omega) (k := k) (by rw [i2, cq]; omega)
          omega
    · show cdv (gqH hr b n (k + 1) e E c) b k / (b : Int) = c
      rw [i2]; exact ct.1
    · show vqH hr b n (gqH hr b n (k + 1) e E c) k (max e (E (dig (gqH hr b n (k + 1) e E c) b k) + hr ((n : Int) - k - 1))) (upf E (dig (gqH hr b n (k + 1) e E c) b k) (E (dig (gqH hr b n (k + 1) e E c) b k) + hr ((n : Int) - k - 1))) = _
      rw [dg, i3, eo]; rfl
/-- hands that are alike may change places -/
def swp (a b : Int) : Int → Int := fun x => if x = a then b else if x = b then a else x
theorem swp_i {a b x : Int} : swp a b (swp a b x) = x := by unfold swp; (repeat' split) <;> omega
theorem upf_swp {a b h v : Int} {E : Int → Int} : upf (fun x => E (swp a b x)) h v = fun x => upf E (swp a b h) v (swp a b x) := by
  funext x
  unfold upf
  by_cases q : x = h
  · rw [if_pos q, if_pos (by rw [q])]
  · rw [if_neg q, if_neg (fun w => q (by rw [← swp_i (a := a) (b := b) (x := x), w, swp_i]))]
theorem opt_swp {hr : Int → Int} {b n : Nat} {a c : Nat} (ha : a < b) (hc : c < b) : ∀ (k : Nat) (e : Int) (E : Int → Int), optH hr b n k e (fun x => E (swp (a : Int) (c : Int) x)) = optH hr b n k e E := by
  have sb : ∀ h : Nat, h < b → ∃ g : Nat, g < b ∧ swp (a : Int) (c : Int) (h : Int) = (g : Int) := fun h hh => by
    unfold swp
    by_cases q : (h : Int) = a
    · exact ⟨c, hc, if_pos q⟩
    · by_cases q2 : (h : Int) = c
      · exact ⟨a, ha, by rw [if_neg q, if_pos q2]⟩
      · exact ⟨h, hh, by rw [if_neg q, if_neg q2]⟩
  intro k
  induction k with
  | zero => intro e E; rfl
  | succ k ih =>
    intro e E
    have ch : ∀ h g : Nat, swp (a : Int) (c : Int) (h : Int) = (g : Int) → chH hr b n k e (fun x => E (swp (a : Int) (c : Int) x)) h = chH hr b n k e E g := fun h g w => by
      unfold chH
      show optH hr b n k (max e (E (swp (a : Int) (c : Int) (h : Int)) + _)) (upf (fun x => E (swp (a : Int) (c : Int) x)) (h : Int) (E (swp (a : Int) (c : Int) (h : Int)) + _)) = _
      rw [upf_swp, w]
      exact ih _ (upf E (g : Int) (E (g : Int) + hr ((n : Int) - k - 1)))
    rw [optH_s, optH_s]
    refine Int.le_antisymm ?_ ?_
    · obtain ⟨a1, a2, -⟩ := agH_p (g := chH hr b n k e E) (b - 1)
      obtain ⟨g, g1, g2⟩ := sb (agH (chH hr b n k e E) (b - 1)) (by omega)
      have := ch g (agH (chH hr b n k e E) (b - 1)) (by rw [← g2, swp_i])
      rw [← a2, ← this]
      exact mnH_le (b - 1) g (by omega)
    · obtain ⟨a1, a2, -⟩ := agH_p (g := chH hr b n k e (fun x => E (swp (a : Int) (c : Int) x))) (b - 1)
      obtain ⟨g, g1, g2⟩ := sb (agH (chH hr b n k e (fun x => E (swp (a : Int) (c : Int) x))) (b - 1)) (by omega)
      rw [← a2, ch _ g g2]
      exact mnH_le (b - 1) g (by omega)
theorem ch_alike {hr : Int → Int} {b n k : Nat} {e : Int} {E : Int → Int} {h u : Nat} (hh : h < b) (hu : u < b) (hE : E (h : Int) = E (u : Int)) : chH hr b n k e E h = chH hr b n k e E u := by
  unfold chH
  have e1 : upf E (h : Int) (E (h : Int) + hr ((n : Int) - k - 1)) = fun x => upf E (u : Int) (E (u : Int) + hr ((n : Int) - k - 1)) (swp (h : Int) (u : Int) x) := by
    funext x
    unfold upf swp
    rw [hE]
    by_cases q : x = (h : Int)
    · rw [if_pos q, if_pos q, if_pos rfl]
    · rw [if_neg q, if_neg q]
      by_cases q2 : x = (u : Int)
      · rw [if_pos q2]
        by_cases q3 : (h : Int) = (u : Int)
        · exact absurd (q2.trans q3.symm) q
        · rw [if_neg q3, q2, hE]
      · rw [if_neg q2, if_neg q2]
  rw [e1, opt_swp hh hu, hE]
