theorem isum_mul {p : Int → Prop} [DecidablePred p] {u : Int} : ∀ n : Nat, isum p (fun _ => u) n = u * isum p (fun _ => 1) n := by
  intro n
  induction n with
  | zero => exact (Int.mul_zero u).symm
  | succ n ih =>
    by_cases q : p n
    · rw [isum_t (p := p) (f := fun _ => u) q, isum_t (p := p) (f := fun _ => 1) q, ih, Int.mul_add, Int.mul_one]
    · rw [isum_f (p := p) (f := fun _ => u) q, isum_f (p := p) (f := fun _ => 1) q, ih, Int.mul_add, Int.mul_zero]
/-- so many would pay a price -/
def cnO2 (o : Int → Int) (n : Nat) (u : Int) : Int := isum (fun k : Int => u ≤ o k) (fun _ => 1) n
/-- what a price takes -/
def tkO (o : Int → Int) (n : Nat) (u : Int) : Int := isum (fun k : Int => u ≤ o k) (fun _ => u) n
theorem tkO_m {o : Int → Int} {n : Nat} {u : Int} : tkO o n u = u * cnO2 o n u := isum_mul n
theorem tkO_0 {o : Int → Int} {n : Nat} : tkO o n 0 = 0 := by rw [tkO_m, Int.zero_mul]
theorem cnO_b {o : Int → Int} {u : Int} : ∀ n : Nat, 0 ≤ cnO2 o n u := by
  intro n
  induction n with
  | zero => exact Int.le_refl 0
  | succ n ih =>
    unfold cnO2 at ih ⊢
    by_cases q : u ≤ o n
    · rw [isum_t (p := fun k : Int => u ≤ o k) (f := fun _ => 1) q]; omega
    · rw [isum_f (p := fun k : Int => u ≤ o k) (f := fun _ => 1) q]; omega
/-- a price that nobody offers: as many pay one more -/
theorem cnO_1 {o : Int → Int} {n : Nat} {u : Int} (h : ∀ k : Nat, k < n → o k ≠ u) : cnO2 o n u = cnO2 o n (u + 1) := isum_k n (fun i hi => ⟨fun q => by have := h i hi; omega, fun q => by omega⟩) (fun _ _ => rfl)
theorem cnO_z {o : Int → Int} {n : Nat} {u : Int} (h : ∀ k : Nat, k < n → o k < u) : cnO2 o n u = 0 := by
  have e : ∀ m : Nat, m ≤ n → cnO2 o m u = 0 := by
    intro m
    induction m with
    | zero => intro _; rfl
    | succ m ih =>
      intro hm
      have i := ih (by omega)
      unfold cnO2 at i ⊢
      rw [isum_f (p := fun k : Int => u ≤ o k) (f := fun _ => 1) (by have := h m (by omega); omega), i]; rfl
  exact e n (Nat.le_refl n)
theorem cnO_self {o : Int → Int} {n i : Nat} (hi : i < n) : 0 < cnO2 o n (o i) := by
  have e : ∀ m : Nat, m ≤ n → i < m → 0 < cnO2 o m (o i) := by
    intro m
    induction m with
    | zero => intro _ w; exact absurd w (Nat.not_lt_zero i)
    | succ m ih =>
      intro hm w
      by_cases q : i = m
      · subst q
        have c := cnO_b (o := o) (u := o i) i
        unfold cnO2 at c ⊢
        rw [isum_t (p := fun k : Int => o i ≤ o k) (f := fun _ => 1) (Int.le_refl _)]; omega
      · have i2 := ih (by omega) (by omega)
        unfold cnO2 at i2 ⊢
        by_cases q2 : o i ≤ o m
        · rw [isum_t (p := fun k : Int => o i ≤ o k) (f := fun _ => 1) q2]; omega
        · rw [isum_f (p := fun k : Int => o i ≤ o k) (f := fun _ => 1) q2]; omega
  exact e n (Nat.le_refl n) hi
/-- better, or as good and not dearer -/
def btO (o : Int → Int) (n : Nat) (b u : Int) : Prop := tkO o n u < tkO o n b ∨ (tkO o n u = tkO o n b ∧ b ≤ u)
theorem bt_all {o : Int → Int} {n : Nat} {b : Int} (hb : 0 < tkO o n b ∨ b = 0) (ho : ∀ k : Nat, k < n → 0 ≤ o k ∧ o k ≤ 999) (h : ∀ k : Nat, k < n → btO o n b (o k)) : ∀ m : Nat, ∀ u : Int, 0 ≤ u → u + m = 1000 → btO o n b u := by
  intro m
  induction m with
  | zero =>
    intro u h0 h1
    have z : tkO o n u = 0 := by rw [tkO_m, cnO_z (fun k hk => by have := ho k hk; omega), Int.mul_zero]
    unfold btO
    rw [z]
    rcases hb with q | q
    · exact Or.inl q
    · subst q; exact Or.inr ⟨tkO_0.symm, h0⟩
  | succ m ih =>
    intro u h0 h1
    by_cases q : ∃ k : Nat, k < n ∧ o k = u
    · obtain ⟨k, hk, e⟩ := q
      have := h k hk
      rwa [e] at this
    · have e := cnO_1 (o := o) (n := n) (u := u) (fun k hk w => q ⟨k, hk, w⟩)
      have c0 := cnO_b (o := o) (u := u + 1) n
      have i := ih (u + 1) (by omega) (by omega)
      have t1 : tkO o n u = u * cnO2 o n (u + 1) := by rw [tkO_m, e]
      have t2 : tkO o n (u + 1) = u * cnO2 o n (u + 1) + cnO2 o n (u + 1) := by rw [tkO_m, Int.add_mul, Int.one_mul]
      by_cases z : cnO2 o n (u + 1) = 0
      · rw [z, Int.mul_zero] at t1
        unfold btO
        rw [t1]
        rcases hb with w | w
        · exact Or.inl w
        · subst w; exact Or.inr ⟨tkO_0.symm, h0⟩
      · refine Or.inl ?_
        unfold btO at i
        generalize u * cnO2 o n (u + 1) = x at t1 t2
        omega
/-- the class's best price -/
theorem bpC_p {M : Me} {n : Nat} : ∀ i : Nat, i ≤ n → (0 < tkO (fun k => M 232 k) n (bpC M n i) ∨ bpC M n i = 0) ∧ ∀ k : Nat, k < i → btO (fun k => M 232 k) n (bpC M n i) (M 232 k) := by
  intro i
  induction i with
  | zero => intro _; exact ⟨Or.inr rfl, fun k hk => absurd hk (Nat.not_lt_zero k)⟩
  | succ i ih =>
    intro hi
    obtain ⟨h1, h2⟩ := ih (by omega)
    have f : ∀ u, tkC M u n = tkO (fun k => M 232 k) n u := fun u => rfl
    have z := tkO_0 (o := fun k => M 232 k) (n := n)
    by_cases q : 0 < tkC M (M 232 (i : Int)) n - tkC M (bpC M n i) n ∨ (tkC M (M 232 (i : Int)) n - tkC M (bpC M n i) n = 0 ∧ M 232 (i : Int) < bpC M n i)
    · rw [bpC_t q]
      rw [f, f] at q
      refine ⟨?_, fun k hk => ?_⟩
      · rcases h1 with w | w
        · exact Or.inl (by omega)
        · rw [w, z] at q
          by_cases v : 0 < tkO (fun k => M 232 k) n (M 232 i)
          · exact Or.inl v
          · refine Or.inr ?_
            have m := tkO_m (o := fun k => M 232 k) (n := n) (u := M 232 (i : Int))
            exfalso
            have c0 := cnO_b (o := fun k => M 232 k) (u := M 232 (i : Int)) n
            rcases q with q | ⟨q, q2⟩
            · omega
            · have c1 : 0 < cnO2 (fun k => M 232 k) n (M 232 (i : Int)) := by
                by_cases x : cnO2 (fun k => M 232 k) n (M 232 (i : Int)) = 0
                · exfalso
                  have y : 0 < cnO2 (fun k => M 232 k) n (M 232 (i : Int)) := cnO_self (o := fun k => M 232 k) (n := n) (i := i) (by omega)
                  omega
                · omega
              have := Int.mul_neg_of_neg_of_pos q2 c1
              omega
      · unfold btO at h2 ⊢
        by_cases w : k = i
        · subst w; exact Or.inr ⟨rfl, Int.le_refl _⟩
        · have := h2 k (by omega)
          omega
    · rw [bpC_f q]
      rw [f, f] at q
      refine ⟨h1, fun k hk => ?_⟩
      by_cases w : k = i
      · subst w; unfold btO; omega
      · exact h2 k (by omega)
/-- the reference's best price -/
theorem prA_p {M : Me} {n : Nat} : ∀ i : Nat, ((prA M n i).2 = tkO (fun k => M 430 (168 + k)) n (prA M n i).1) ∧ 0 ≤ (prA M n i).1 ∧ (∀ p : Nat, p < i → tkO (fun k => M 430 (168 + k)) n p ≤ (prA M n i).2) ∧ (∀ p : Nat, (p : Int) < (prA M n i).1 → tkO (fun k => M 430 (168 + k)) n p < (prA M n i).2) ∧ ((prA M n i).1 < i ∨ (prA M n i).1 = 0) ∧ 0 ≤ (prA M n i).2 := by
  intro i
  induction i with
  | zero => exact ⟨tkO_0.symm, Int.le_refl 0, fun p hp => absurd hp (Nat.not_lt_zero p), fun p hp => absurd hp (by show ¬ (p : Int) < 0; omega), Or.inr rfl, Int.le_refl 0⟩
  | succ i ih =>
    obtain ⟨h1, h2, h3, h4, h5, h6⟩ := ih
    have f : ∀ u, tkA M u n = tkO (fun k => M 430 (168 + k)) n u := fun u => rfl
    by_cases q : (prA M n i).2 < tkA M i n
    · rw [prA_t q]
      rw [f] at q ⊢
      refine ⟨rfl, by omega, fun p hp => ?_, fun p hp => ?_, Or.inl (by omega), by omega⟩
      · by_cases w : p = i
        · subst w; exact Int.le_refl _
        · have := h3 p (by omega); omega
      · have := h3 p (by omega); omega
    · rw [prA_f q]
      rw [f] at q
      refine ⟨h1, h2, fun p hp => ?_, h4, by omega, h6⟩
      by_cases w : p = i
      · subst w; omega
      · exact h3 p (by omega)
/-- PRICE -/
theorem v_pr {C A : Me} (h : rlR C A) {n : Nat} (hn : A 430 8 = (n : Int)) {u : Int} : fprV C n u = if u = 0 then (prA A n 1000).1 else (prA A n 1000).2 := by
  have w8 := wa_8 h.hy.1
  obtain ⟨-, -, -, -, ⟨a4, b4⟩, -, -⟩ := h.1.2.2.2.2.2.o
  have ho : ∀ k : Int, 0 ≤ k → k < n → C 232 k = A 430 (168 + k) ∧ 0 ≤ A 430 (168 + k) ∧ A 430 (168 + k) ≤ 999 := fun k h0 h1 => by
    have := wo_0 h.hy.1 (c := k) (by omega)
    exact ⟨b4 k h0 (by omega), this⟩
  have e : ∀ v : Int, tkO (fun k => C 232 k) n v = tkO (fun k => A 430 (168 + k)) n v := fun v => isum_k n (fun i hi => by show v ≤ C 232 i ↔ v ≤ A 430 (168 + i); rw [(ho i (by omega) (by omega)).1]) (fun _ _ => rfl)
  obtain ⟨p1, p2⟩ := bpC_p (M := C) (n := n) n (Nat.le_refl n)
  have bb := bpC_b (M := C) (n := n) (fun k h0 h1 => by rw [(ho k h0 h1).1]; exact (ho k h0 h1).2) n (Nat.le_refl n)
  obtain ⟨q1, q2, q3, q4, q5, q6⟩ := prA_p (M := A) (n := n) 1000
  have all := bt_all p1 (fun k hk => by show 0 ≤ C 232 k ∧ C 232 k ≤ 999; rw [(ho k (by omega) (by omega)).1]; exact (ho k (by omega) (by omega)).2) p2
  have a1 := all (1000 - (prA A n 1000).1).toNat (prA A n 1000).1 q2 (by omega)
  unfold btO at a1
  rw [e, e, ← q1] at a1
  obtain ⟨b, hb⟩ := Int.eq_ofNat_of_zero_le bb.1
  have b3 := q3 b (by omega)
  have b4 := q4 b
  rw [hb] at a1
  have eq : bpC C n n = (prA A n 1000).1 := by
    rw [hb]
    by_cases w : (b : Int) < (prA A n 1000).1
    · have := b4 w; omega
    · omega
  unfold fprV
  rw [eq]
  by_cases z : u = 0
  · rw [if_pos z, if_pos z]
  · rw [if_neg z, if_neg z, q1]
    exact e _
/-- WRONGLY is one and the same number -/
theorem v_wr {n l a b f : Int} : fwV n l a b f = if (1 ≤ n ∧ n ≤ 9) ∧ (0 ≤ l ∧ l ≤ 9) ∧ (0 ≤ a ∧ a ≤ 10) ∧ (0 ≤ b ∧ b ≤ 10) then wrA2 n.toNat (a * (10 - b)).toNat l.toNat f else -1 := rfl
