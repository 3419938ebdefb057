theorem smW_c {w v : Int → Int} : ∀ n : Nat, (∀ i : Nat, i < n → w i = v i) → smW w n = smW v n := by
  intro n
  induction n with
  | zero => intro _; rfl
  | succ n ih => intro h; unfold smW; rw [ih (fun i hi => h i (by omega)), h n (by omega)]
theorem lfW_c {w v : Int → Int} {t g : Int} : ∀ n : Nat, (∀ i : Nat, i < n → w i = v i) → lfW w t g n = lfW v t g n := by
  intro n
  induction n with
  | zero => intro _; rfl
  | succ n ih => intro h; unfold lfW; rw [ih (fun i hi => h i (by omega)), h n (by omega)]
theorem ctW_c {r s : Int → Int} {i : Int} (hi : r i = s i) : ∀ n : Nat, (∀ j : Nat, j < n → r j = s j) → ctW r i n = ctW s i n := by
  intro n
  induction n with
  | zero => intro _; rfl
  | succ n ih => intro h; unfold ctW; rw [ih (fun j hj => h j (by omega)), h n (by omega), hi]
theorem zW_c {w v : Int → Int} {t g i : Int} {n : Nat} (h : ∀ i : Nat, i < n → w i = v i) (hi : w i = v i) : zW w t g n i = zW v t g n i := by
  unfold zW
  rw [lfW_c n h, ctW_c (r := rmW w t g) (s := rmW v t g) (by unfold rmW; rw [hi]) n (fun j hj => by unfold rmW; rw [h j hj])]
theorem bB_c {w v T : Int → Int} {n : Nat} (h : ∀ i : Nat, i < n → w i = v i) : ∀ k : Nat, k < n → bB w T k = bB v T k := by
  intro k
  induction k with
  | zero => intro _; rfl
  | succ k ih =>
    intro hk
    have i := ih (by omega)
    have b := bB_b (w := v) (T := T) k
    have e1 := h (k + 1) hk
    obtain ⟨m, hm⟩ := Int.eq_ofNat_of_zero_le b.1
    have e2 := h m (by omega)
    unfold bB
    rw [i, hm, e2, show (k : Int) + 1 = ((k + 1 : Nat) : Int) by omega, e1]
theorem tnS_c {w v : Int → Int} {n : Nat} (hn : 1 ≤ n) (h : ∀ i : Nat, i < n → w i = v i) : ∀ t : Nat, tnS w n t = tnS v n t := by
  intro t
  induction t with
  | zero => rfl
  | succ t ih =>
    funext c
    unfold tnS
    rw [ih, bB_c h (n - 1) (by omega)]
/-- LAUGHS -/
theorem v_la {C A : Me} (h : rlR C A) {n : Nat} (hn : A 430 7 = (n : Int)) {t b c : Int} : flaV C n t b c = if ((0 ≤ t ∧ t ≤ 99) ∧ (0 ≤ c ∧ c ≤ A 430 7 - 1)) ∧ b ≠ 0 then tnS (fun i => A 430 (162 + i)) n t.toNat c else if ((0 ≤ t ∧ t ≤ 99) ∧ (0 ≤ c ∧ c ≤ A 430 7 - 1)) ∧ b = 0 then t * A 430 (162 + c) / smW (fun i => A 430 (162 + i)) n + zW (fun i => A 430 (162 + i)) t (smW (fun i => A 430 (162 + i)) n) n c else -1 := by
  obtain ⟨-, -, -, ⟨a3, b3⟩, -, -, -⟩ := h.1.2.2.2.2.2.o
  have e : ∀ i : Nat, i < n → (fun i : Int => C 228 i) i = (fun i : Int => A 430 (162 + i)) i := fun i hi => (b3 i (by omega) (by omega)).1
  unfold flaV
  by_cases q : (0 ≤ t ∧ t ≤ 99) ∧ (0 ≤ c ∧ c ≤ A 430 7 - 1)
  · rw [if_neg (show ¬ flP C t c by unfold flP; omega)]
    by_cases z : b = 0
    · rw [if_pos z, if_neg (fun w => w.2 z), if_pos ⟨q, z⟩, smW_c (w := fun i => C 228 i) (v := fun i => A 430 (162 + i)) n e]
      have ec : (fun i : Int => C 228 i) c = (fun i : Int => A 430 (162 + i)) c := (b3 c (by omega) (by omega)).1
      rw [zW_c (w := fun i => C 228 i) (v := fun i => A 430 (162 + i)) e ec, show C 228 c = A 430 (162 + c) from ec]
    · rw [if_neg z, if_pos ⟨q, z⟩, tnS_c (w := fun i => C 228 i) (v := fun i => A 430 (162 + i)) (by omega) e]
  · rw [if_pos (show flP C t c by unfold flP; omega), if_neg (fun w => q w.1), if_neg (fun w => q w.1)]
/-- whether the prices are a text's -/
theorem rl_wi {C A : Me} (h : rlR C A) {n : Nat} (hn : A 430 14 = (n : Int)) {t : Int} (ht : t < A 430 1) : ∀ k : Nat, (k : Int) ≤ A 430 9 → rlR (ipC C t k).2 (wiS A n t k).2 ∧ (ipC C t k).1 = (wiS A n t k).1 := by
  have w9 := wa_9 h.hy.1
  obtain ⟨-, -, -, -, -, ⟨a5, b5⟩, -⟩ := h.1.2.2.2.2.2.o
  intro k
  induction k with
  | zero => intro _; exact ⟨h, rfl⟩
  | succ k ih =>
    intro hk
    obtain ⟨i1, i2⟩ := ih (by omega)
    have o := wiS_o h.hy (n := n) (t := t) k
    have b := b5 k (by omega) (by omega)
    have d := wd_0 h.hy.1 (c := (k : Int)) (by omega)
    rw [Int.add_zero] at d
    have n9 : (wiS A n t k).2 430 14 = (n : Int) := (o.2.1 430 14 (by omega)).trans hn
    have l := lf_C i1.lf n9 (c := A 430 (176 + 2 * (k : Int))) (t := t) (by omega) (by rw [o.2.1 430 1 (by omega)]; exact ht)
    by_cases q : (wiS A n t k).1 = 0
    · rw [wiS_f q, show ipC C t (k + 1) = (0, (ipC C t k).2) from if_pos (i2.trans q)]
      exact ⟨i1, rfl⟩
    · rw [wiS_t q, show ipC C t (k + 1) = _ from if_neg (fun w => q (i2.symm.trans w)), b.1.1, b.2, l]
      exact ⟨rl_lx (rl_bl i1), rfl⟩
theorem rl_wh {C A : Me} (h : rlR C A) {n m : Nat} (hn : A 430 14 = (n : Int)) (hm : A 430 9 = (m : Int)) : ∀ t : Nat, (t : Int) ≤ A 430 1 → rlR (whU C m t).2 (woU A n m t).2 ∧ (whU C m t).1 = (woU A n m t).1 := by
  have w1 := wa_1 h.hy.1
  intro t
  induction t with
  | zero => intro _; exact ⟨h, rfl⟩
  | succ t ih =>
    intro ht
    obtain ⟨i1, i2⟩ := ih (by omega)
    have o := woU_o h.hy (n := n) (m := m) t
    have w := rl_wi i1 ((o.2 430 14 (by omega)).trans hn) (t := t) (by rw [o.2 430 1 (by omega)]; omega) m (by rw [o.2 430 9 (by omega)]; omega)
    by_cases q : (wiS (woU A n m t).2 n t m).1 = 0
    · rw [woU_0 q, whU_0 (w.2.trans q), i2]
      refine ⟨w.1, ?_⟩
      have b : -2147483648 ≤ (woU A n m t).1 ∧ (woU A n m t).1 < 2147483648 := by
        cases t with
        | zero => exact (show -2147483648 ≤ (0 : Int) ∧ (0 : Int) < 2147483648 by decide)
        | succ t => exact or32_in _ _
      exact (or32_0 b).symm
    · rw [woU_1 q, whU_1 (fun x => q (w.2.symm.trans x)), i2]
      exact ⟨w.1, rfl⟩
