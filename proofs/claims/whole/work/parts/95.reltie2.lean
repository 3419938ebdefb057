theorem or32_x {x : Int} (h : -2147483648 ≤ x ∧ x < 2147483648) : or32 x x = x := tb_ext (or32_in _ _) h (fun j _ => by rw [tb_or, Bool.or_self])
/-- HANGING behind so many CREASES looked at -/
theorem tiS_x {M : Me} {a b : Int} {n : Nat} (hx : ∀ e : Int, 0 ≤ e → e < (n : Int) → 0 ≤ M 214 e ∧ M 214 e < 4096) (ha : 0 ≤ a ∧ a < (n : Int)) : ∀ i : Nat, i ≤ n → ∀ e : Int, 0 ≤ e → e < (n : Int) → tiS M a b i 214 e = (if e < (i : Int) ∧ and32 (shr32 (M 214 e) b) 1 = 1 then or32 (M 214 e) (M 214 a) else M 214 e) := by
  intro i
  induction i with
  | zero => intro _ e h0 h1; rw [if_neg (by omega)]; rfl
  | succ i ih =>
    intro hi e h0 h1
    have ei := ih (by omega) (i : Int) (by omega) (by omega)
    have ea := ih (by omega) a ha.1 ha.2
    have ea2 : tiS M a b i 214 a = M 214 a := by
      rw [ea]
      have := hx a ha.1 ha.2
      split
      · exact or32_x (by omega)
      · rfl
    rw [if_neg (by omega)] at ei
    by_cases q : and32 (shr32 (M 214 i) b) 1 = 1
    · rw [tiS_t (by rw [ei]; exact q), ei, ea2]
      by_cases w : e = (i : Int)
      · subst w; rw [up_eq ⟨rfl, rfl⟩, if_pos ⟨by omega, q⟩]
      · rw [up_ne (by omega), ih (by omega) e h0 h1]
        by_cases v : and32 (shr32 (M 214 e) b) 1 = 1 ∧ e < (i : Int)
        · rw [if_pos ⟨v.2, v.1⟩, if_pos ⟨by omega, v.1⟩]
        · rw [if_neg (fun x => v ⟨x.2, x.1⟩), if_neg (fun x => v ⟨x.2, by omega⟩)]
    · rw [tiS_f (by rw [ei]; exact q), ih (by omega) e h0 h1]
      by_cases w : e = (i : Int)
      · subst w; rw [if_neg (by omega), if_neg (fun x => q x.2)]
      · by_cases v : and32 (shr32 (M 214 e) b) 1 = 1 ∧ e < (i : Int)
        · rw [if_pos ⟨v.2, v.1⟩, if_pos ⟨by omega, v.1⟩]
        · rw [if_neg (fun x => v ⟨x.2, x.1⟩), if_neg (fun x => v ⟨x.2, by omega⟩)]
theorem tiS_12 {M : Me} {a b : Int} : ∀ i : Nat, ∀ a' j : Int, ¬ (a' = 214 ∧ 0 ≤ j ∧ j < i) → tiS M a b i a' j = M a' j := by
  intro i
  induction i with
  | zero => intro _ _ _; rfl
  | succ i ih =>
    intro a' j h
    unfold tiS
    split
    · exact (up_ne (by omega)).trans (ih a' j (by omega))
    · exact ih a' j (by omega)
/-- a TIE -/
theorem rl_ti {C A : Me} (h : rlR C A) {n : Nat} (hn : A 430 14 = (n : Int)) {a b : Int} (ha : 0 ≤ a ∧ a < A 430 14) (hb : 0 ≤ b ∧ b < A 430 14) : rlR (tiS (up C 213 a (or32 (C 213 a) (shl32 1 b))) a b n) (up A 430 (15 + 7 * a + 6) (or32 (A 430 (15 + 7 * a + 6)) (shl32 1 b))) := by
  have w0 := wa_0 h.hy.1
  have w1 := wa_1 h.hy.1
  have w14 := wa_14 h.hy.1
  have hk9 := h.1.2.2.2.2.1
  have ka := h.cr ha.1 ha.2
  have b6 := wc_6 h.hy.1 (c := a) (by omega)
  have b7 := or4 (a := A 430 (15 + 7 * a + 6)) (b := shl32 1 b) (by omega) (shl4i (by omega))
  have hC : ∀ x j : Int, x ≠ 213 → x ≠ 214 → tiS (up C 213 a (or32 (C 213 a) (shl32 1 b))) a b n x j = C x j := fun x j q0 q1 => (tiS_o q1 n).trans (up_ne (by omega))
  refine h.sp (fun x j _ q => hC x j (by omega) (by omega)) (fun j => hC 10 j (by decide) (by decide)) (fun x j _ _ q => up_ne (by omega)) (wcu_6 h.hy.1 (by omega) (by omega)) (up_ne (by omega)) (by simp (disch := omega) only [up_ne, up_eq]; exact h.hy.2.1) ⟨h.1.1.of (fun j => hC 49 j (by decide) (by decide)) ⟨up_ne (by omega), up_ne (by omega), up_ne (by omega)⟩, h.1.2.1.of (fun x j q0 q1 => hC x j (by omega) (by omega)) (fun j q => up_ne (by omega)) (by omega) (by omega), h.1.2.2.1.of (wr_a h.hy.1) (fun x j q0 q1 => hC x j (by omega) (by omega)) (fun j q => up_ne (by omega)) (by simp (disch := omega) only [up_ne, up_eq]; exact Int.le_refl _) (by simp (disch := omega) only [up_ne, up_eq]; exact Int.le_refl _), h.1.2.2.2.1.of (by omega) (fun x j q0 q1 => hC x j (by omega) (by omega)) (fun j q => up_ne (by omega)), ?_, h.1.2.2.2.2.2.of (wr_a h.hy.1) (fun x j q0 q1 => hC x j (by omega) (by omega)) (fun j q => up_ne (by omega)) (by simp (disch := omega) only [up_ne, up_eq]; exact Int.le_refl _)⟩
  generalize hA' : up A 430 (15 + 7 * a + 6) (or32 (A 430 (15 + 7 * a + 6)) (shl32 1 b)) = A'
  have eo : ∀ j : Int, j ≠ 15 + 7 * a + 6 → A' 430 j = A 430 j := fun j q => by rw [← hA']; exact up_ne (by omega)
  have ea : A' 430 (15 + 7 * a + 6) = or32 (A 430 (15 + 7 * a + 6)) (shl32 1 b) := by rw [← hA']; exact up_eq ⟨rfl, rfl⟩
  have za : ((a.toNat : Nat) : Int) = a := Int.toNat_of_nonneg ha.1
  have zb : ((b.toNat : Nat) : Int) = b := Int.toNat_of_nonneg hb.1
  unfold rlK
  rw [eo 14 (by omega), eo 0 (by omega), show (49 : Int) + 160 = 209 by decide, show (49 : Int) + 161 = 210 by decide, show (49 : Int) + 162 = 211 by decide, show (49 : Int) + 163 = 212 by decide, show (49 : Int) + 164 = 213 by decide, show (49 : Int) + 165 = 214 by decide, show (A 430 14).toNat = n by omega]
  intro c g0 g1
  obtain ⟨⟨k1, k2⟩, k3, k4, k5, k6, k7, k8⟩ := hk9 c g0 g1
  rw [show (49 : Int) + 160 = 209 by decide] at k1
  rw [show (49 : Int) + 161 = 210 by decide] at k3
  rw [show (49 : Int) + 162 = 211 by decide] at k4
  rw [show (49 : Int) + 163 = 212 by decide] at k5
  rw [show (49 : Int) + 164 = 213 by decide] at k6
  rw [show (49 : Int) + 165 = 214 by decide, show (A 430 14).toNat = n by omega] at k7
  have zc : ((c.toNat : Nat) : Int) = c := Int.toNat_of_nonneg g0
  have q214 : ∀ e : Int, 0 ≤ e → e < 12 → e < A 430 14 → 0 ≤ C 214 e ∧ C 214 e < 4096 := fun e e0 e1 e2 => by
    rw [(h.cr e0 e2).2.2.2.2.2.1]
    exact hangT4 (by omega) ⟨e0, e1⟩
  have t3 : ∀ e : Int, tiS (up C 213 a (or32 (C 213 a) (shl32 1 b))) a b n 213 e = up C 213 a (or32 (C 213 a) (shl32 1 b)) 213 e := fun e => tiS_o (by decide) n
  rw [hC 209 c (by decide) (by decide), hC 210 c (by decide) (by decide), hC 211 c (by decide) (by decide), hC 212 c (by decide) (by decide), t3, eo (15 + 7 * c + 2) (by omega), eo (15 + 7 * c + 3) (by omega), eo (15 + 7 * c + 4) (by omega), eo (15 + 7 * c + 5) (by omega)]
  refine ⟨⟨k1, k2⟩, k3, k4, k5, ?_, ?_, fun e he => ?_⟩
  · by_cases q : c = a
    · subst q; rw [up_eq ⟨rfl, rfl⟩, ea, k6]
    · rw [up_ne (by omega), eo _ (by omega)]; exact k6
  · have hU := hang_t (T := tiR A 430) (U := tiR A' 430) (n := n) (a := a.toNat) (b := b.toNat) (i := c.toNat) (by omega) (by omega) (by omega) (by omega) (by unfold tiR; rw [za, zb]; exact ea) (fun e he hne => by unfold tiR; exact eo _ (by omega))
    rw [za, zc] at hU
    have va : C 214 a = hangT (tiR A 430) n a := ka.2.2.2.2.2.1.trans (by rw [show (A 430 14).toNat = n by omega]; rfl)
    rw [hU, ← k7, ← va]
    have tv := tiS_x (M := up C 213 a (or32 (C 213 a) (shl32 1 b))) (a := a) (b := b) (n := n) (fun e e0 e1 => by rw [up_ne (by omega)]; exact q214 e e0 (by omega) (by omega)) ⟨ha.1, by omega⟩ n (Nat.le_refl n) c g0 (by omega)
    rw [tv, up_ne (by omega), up_ne (by omega)]
    have hh := tb_has (s := C 214 c) (j := b.toNat) (by omega)
    rw [zb] at hh
    by_cases q : tb (C 214 c) b.toNat = true
    · rw [if_pos q, if_pos ⟨by omega, hh.mpr q⟩]
    · rw [if_neg q, if_neg (fun x => q (hh.mp x.2))]
  · by_cases q : c = a
    · subst q
      rw [ea, tb_or, k8 e he, Bool.false_or]
      by_cases e32 : e < 32
      · have t1 := tb_shl1 (c := b.toNat) (by omega) e32
        rw [zb] at t1
        rw [t1]; exact decide_eq_false (by omega)
      · exact tb_big (by omega)
    · rw [eo _ (by omega)]; exact k8 e he
