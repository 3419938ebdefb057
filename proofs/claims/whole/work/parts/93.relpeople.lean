/-- a person told -/
theorem rl_pe {C A : Me} (h : rlR C A) {n s c : Int} (hn : A 430 0 = n) (hn5 : n < 5) (hs : 0 ≤ s ∧ s ≤ 2) (hc : 0 ≤ c ∧ c ≤ 9999) : rlR (up (up (up (up C 207 n s) 208 n c) 51 n c) 50 2 (n + 1)) (up (up (up (up A 430 (99 + 3 * n) c) 430 (99 + 3 * n + 1) s) 430 (99 + 3 * n + 2) c) 430 0 (n + 1)) := by
  have w0 := wa_0 h.hy.1
  have w1 := wa_1 h.hy.1
  have w14 := wa_14 h.hy.1
  obtain ⟨⟨b1, b2, b3, b4, b5⟩, b6, b7, b8⟩ := h.1.2.1.o
  have hW : WA (up (up (up (up A 430 (99 + 3 * n) c) 430 (99 + 3 * n + 1) s) 430 (99 + 3 * n + 2) c) 430 0 (n + 1)) := by
    have q := xp_0 h.hy.1 (c := n) (v := c) (by omega) hc
    rw [Int.add_zero] at q
    exact wu_0 (xp_2 (xp_1 q (by omega) hs) (by omega) hc) (by omega)
  refine h.sp (fun a j _ q => (up_ne (by omega)).trans ((up_ne (by omega)).trans ((up_ne (by omega)).trans (up_ne (by omega))))) (fun j => (up_ne (by omega)).trans ((up_ne (by omega)).trans ((up_ne (by omega)).trans (up_ne (by omega))))) (fun a j _ _ q => (up_ne (by omega)).trans ((up_ne (by omega)).trans ((up_ne (by omega)).trans (up_ne (by omega))))) hW ((up_ne (by omega)).trans ((up_ne (by omega)).trans ((up_ne (by omega)).trans (up_ne (by omega))))) (by simp (disch := omega) only [up_ne, up_eq]; exact h.hy.2.1) ⟨h.1.1.of (fun j => (up_ne (by omega)).trans ((up_ne (by omega)).trans ((up_ne (by omega)).trans (up_ne (by omega))))) ⟨(up_ne (by omega)).trans ((up_ne (by omega)).trans ((up_ne (by omega)).trans (up_ne (by omega)))), (up_ne (by omega)).trans ((up_ne (by omega)).trans ((up_ne (by omega)).trans (up_ne (by omega)))), (up_ne (by omega)).trans ((up_ne (by omega)).trans ((up_ne (by omega)).trans (up_ne (by omega))))⟩, ?_, h.1.2.2.1.of (wr_a h.hy.1) (fun a j q0 q1 => (up_ne (by omega)).trans ((up_ne (by omega)).trans ((up_ne (by omega)).trans (up_ne (by omega))))) (fun j q => (up_ne (by omega)).trans ((up_ne (by omega)).trans ((up_ne (by omega)).trans (up_ne (by omega))))) (by simp (disch := omega) only [up_ne, up_eq]; omega) (by simp (disch := omega) only [up_ne, up_eq]; exact Int.le_refl _), ?_, h.1.2.2.2.2.1.of (by omega) (fun a j q0 q1 => (up_ne (by omega)).trans ((up_ne (by omega)).trans ((up_ne (by omega)).trans (up_ne (by omega))))) (fun j q => (up_ne (by omega)).trans ((up_ne (by omega)).trans ((up_ne (by omega)).trans (up_ne (by omega))))) (by simp (disch := omega) only [up_ne, up_eq]; omega), h.1.2.2.2.2.2.of (wr_a h.hy.1) (fun a j q0 q1 => (up_ne (by omega)).trans ((up_ne (by omega)).trans ((up_ne (by omega)).trans (up_ne (by omega))))) (fun j q => (up_ne (by omega)).trans ((up_ne (by omega)).trans ((up_ne (by omega)).trans (up_ne (by omega))))) (by simp (disch := omega) only [up_ne, up_eq]; exact Int.le_refl _)⟩
  · refine rlN.mk (by simp (disch := omega) only [up_ne, up_eq]; exact b1) (by simp (disch := omega) only [up_ne, up_eq]; exact b2) (by simp (disch := omega) only [up_ne, up_eq]) (by simp (disch := omega) only [up_ne, up_eq]; exact b4) (by simp (disch := omega) only [up_ne, up_eq]; exact b5) (fun p g0 g1 => ?_) (fun e g0 g1 => ?_) (fun i g0 g1 => ?_)
    · rw [up_eq ⟨rfl, rfl⟩] at g1
      by_cases e : p = n
      · subst e; simp (disch := omega) only [up_ne, up_eq]
      · have b := b6 p g0 (by omega)
        simp (disch := omega) only [up_ne, up_eq]; exact b
    · simp (disch := omega) only [up_ne, up_eq] at g1
      have b := b7 e g0 g1
      simp (disch := omega) only [up_ne, up_eq]; exact b
    · simp (disch := omega) only [up_ne, up_eq]; exact b8 i g0 g1
  · intro p g0 g1
    rw [up_eq ⟨rfl, rfl⟩] at g1
    rw [show (49 : Int) + 158 = 207 by decide, show (49 : Int) + 159 = 208 by decide]
    by_cases e : p = n
    · subst e; simp (disch := omega) only [up_ne, up_eq]; exact ⟨trivial, trivial⟩
    · have b := h.pe g0 (show p < A 430 0 by omega)
      simp (disch := omega) only [up_ne, up_eq]; exact ⟨b.1, b.2.1⟩
theorem and32_0 {x : Int} : and32 0 x = 0 := tb_ext (and32_in _ _) (by decide) (fun j hj => by rw [tb_and, tb_0, Bool.false_and])
theorem hp1_n {T : Int → Int} {s : Int} {n : Nat} (hT : T n = 0) (h4 : 0 ≤ hp1 T s n ∧ hp1 T s n < 4096) : hp1 T s (n + 1) = hp1 T s n := by
  rw [hp1_f (by rw [hT, and32_0]; exact fun q => q rfl)]
  exact or32_0 (by omega)
theorem hk_n {T : Int → Int} {s : Int} {n : Nat} (hn : n ≤ 12) (hT : T n = 0) (hs : 0 ≤ s ∧ s < 4096) : ∀ k : Nat, hk T (n + 1) s k = hk T n s k := by
  intro k
  induction k with
  | zero => rfl
  | succ k ih =>
    have b := hk4 (T := T) hs hn (k + 1)
    show hp1 T (hk T (n + 1) s k) (n + 1) = hp1 T (hk T n s k) n
    rw [ih]
    exact hp1_n hT b
theorem hp1_i {T : Int → Int} {n : Nat} (hn : n < 12) : ∀ i : Nat, (∀ c : Nat, c < i → tb (T c) n = false) → hp1 T (shl32 1 n) i = shl32 1 n := by
  intro i
  induction i with
  | zero => intro _; rfl
  | succ i ih =>
    intro h
    have b := shl4i (c := (n : Int)) (by omega)
    have e := ih (fun c q => h c (by omega))
    have z : and32 (T i) (shl32 1 n) = 0 := tb_ext (and32_in _ _) (by decide) (fun j hj => by
      rw [tb_and, tb_0, tb_shl1 (by omega) hj]
      by_cases q : j = n
      · subst q; rw [h i (by omega), Bool.false_and]
      · rw [decide_eq_false q, Bool.and_false])
    rw [hp1_f (by rw [e, z]; exact fun q => q rfl), e]
    exact or32_0 (by omega)
theorem hk_i {T : Int → Int} {n : Nat} (hn : n < 12) {m : Nat} (h : ∀ c : Nat, c < m → tb (T c) n = false) : ∀ k : Nat, hk T m (shl32 1 n) k = shl32 1 n := by
  intro k
  induction k with
  | zero => rfl
  | succ k ih => unfold hk; rw [ih]; exact hp1_i hn m h
/-- a CREASE told -/
theorem rl_cr {C A : Me} (h : rlR C A) {n p t d g : Int} (hn : A 430 14 = n) (hn12 : n < 12) (hp : 0 ≤ p ∧ p < A 430 0) (ht : 0 ≤ t ∧ t ≤ 99) (hd : 1 ≤ d ∧ d ≤ 9) (hg : -9 ≤ g ∧ g ≤ 9) : rlR (up (up (up (up (up (up (up (up (up C 209 n p) 210 n t) 211 n d) 212 n g) 213 n 0) 214 n (shl32 1 n)) 52 n 0) 53 n d) 50 3 (n + 1)) (up (up (up (up (up (up (up (up A 430 (15 + 7 * n + 2) p) 430 (15 + 7 * n + 3) t) 430 (15 + 7 * n + 4) d) 430 (15 + 7 * n + 5) g) 430 (15 + 7 * n + 6) 0) 430 (15 + 7 * n + 0) d) 430 (15 + 7 * n + 1) 0) 430 14 (n + 1)) := by
  have w0 := wa_0 h.hy.1
  have w1 := wa_1 h.hy.1
  have w14 := wa_14 h.hy.1
  obtain ⟨⟨b1, b2, b3, b4, b5⟩, b6, b7, b8⟩ := h.1.2.1.o
  have hc : 0 ≤ n ∧ n < 12 := by omega
  have hW := wu_14 (wcu_1 (wcu_0 (wcu_6 (wcu_5 (wcu_4 (wcu_3 (wcu_2 h.hy.1 hc (show 0 ≤ p ∧ p ≤ 4 by omega)) hc ht) hc (show 0 ≤ d ∧ d ≤ 9 by omega)) hc hg) hc (show (0 : Int) ≤ 0 ∧ (0 : Int) ≤ 4095 by decide)) hc (show 0 ≤ d ∧ d ≤ 9 by omega)) hc (show (0 : Int) ≤ 0 ∧ (0 : Int) ≤ 2 by decide)) (show 0 ≤ n + 1 ∧ n + 1 ≤ 12 by omega)
  refine h.sp (fun a j _ q => (up_ne (by omega)).trans ((up_ne (by omega)).trans ((up_ne (by omega)).trans ((up_ne (by omega)).trans ((up_ne (by omega)).trans ((up_ne (by omega)).trans ((up_ne (by omega)).trans ((up_ne (by omega)).trans (up_ne (by omega)))))))))) (fun j => (up_ne (by omega)).trans ((up_ne (by omega)).trans ((up_ne (by omega)).trans ((up_ne (by omega)).trans ((up_ne (by omega)).trans ((up_ne (by omega)).trans ((up_ne (by omega)).trans ((up_ne (by omega)).trans (up_ne (by omega)))))))))) (fun a j _ _ q => (up_ne (by omega)).trans ((up_ne (by omega)).trans ((up_ne (by omega)).trans ((up_ne (by omega)).trans ((up_ne (by omega)).trans ((up_ne (by omega)).trans ((up_ne (by omega)).trans (up_ne (by omega))))))))) hW ((up_ne (by omega)).trans ((up_ne (by omega)).trans ((up_ne (by omega)).trans ((up_ne (by omega)).trans ((up_ne (by omega)).trans ((up_ne (by omega)).trans ((up_ne (by omega)).trans (up_ne (by omega))))))))) (by simp (disch := omega) only [up_ne, up_eq]; exact h.hy.2.1) ⟨h.1.1.of (fun j => (up_ne (by omega)).trans ((up_ne (by omega)).trans ((up_ne (by omega)).trans ((up_ne (by omega)).trans ((up_ne (by omega)).trans ((up_ne (by omega)).trans ((up_ne (by omega)).trans ((up_ne (by omega)).trans (up_ne (by omega)))))))))) ⟨(up_ne (by omega)).trans ((up_ne (by omega)).trans ((up_ne (by omega)).trans ((up_ne (by omega)).trans ((up_ne (by omega)).trans ((up_ne (by omega)).trans ((up_ne (by omega)).trans (up_ne (by omega)))))))), (up_ne (by omega)).trans ((up_ne (by omega)).trans ((up_ne (by omega)).trans ((up_ne (by omega)).trans ((up_ne (by omega)).trans ((up_ne (by omega)).trans ((up_ne (by omega)).trans (up_ne (by omega)))))))), (up_ne (by omega)).trans ((up_ne (by omega)).trans ((up_ne (by omega)).trans ((up_ne (by omega)).trans ((up_ne (by omega)).trans ((up_ne (by omega)).trans ((up_ne (by omega)).trans (up_ne (by omega))))))))⟩, ?_, h.1.2.2.1.of (wr_a h.hy.1) (fun a j q0 q1 => (up_ne (by omega)).trans ((up_ne (by omega)).trans ((up_ne (by omega)).trans ((up_ne (by omega)).trans ((up_ne (by omega)).trans ((up_ne (by omega)).trans ((up_ne (by omega)).trans ((up_ne (by omega)).trans (up_ne (by omega)))))))))) (fun j q => (up_ne (by omega)).trans ((up_ne (by omega)).trans ((up_ne (by omega)).trans ((up_ne (by omega)).trans ((up_ne (by omega)).trans ((up_ne (by omega)).trans ((up_ne (by omega)).trans (up_ne (by omega))))))))) (by simp (disch := omega) only [up_ne, up_eq]; exact Int.le_refl _) (by simp (disch := omega) only [up_ne, up_eq]; omega), h.1.2.2.2.1.of (by omega) (fun a j q0 q1 => (up_ne (by omega)).trans ((up_ne (by omega)).trans ((up_ne (by omega)).trans ((up_ne (by omega)).trans ((up_ne (by omega)).trans ((up_ne (by omega)).trans ((up_ne (by omega)).trans ((up_ne (by omega)).trans (up_ne (by omega)))))))))) (fun j q => (up_ne (by omega)).trans ((up_ne (by omega)).trans ((up_ne (by omega)).trans ((up_ne (by omega)).trans ((up_ne (by omega)).trans ((up_ne (by omega)).trans ((up_ne (by omega)).trans (up_ne (by omega))))))))), ?_, h.1.2.2.2.2.2.of (wr_a h.hy.1) (fun a j q0 q1 => (up_ne (by omega)).trans ((up_ne (by omega)).trans ((up_ne (by omega)).trans ((up_ne (by omega)).trans ((up_ne (by omega)).trans ((up_ne (by omega)).trans ((up_ne (by omega)).trans ((up_ne (by omega)).trans (up_ne (by omega)))))))))) (fun j q => (up_ne (by omega)).trans ((up_ne (by omega)).trans ((up_ne (by omega)).trans ((up_ne (by omega)).trans ((up_ne (by omega)).trans ((up_ne (by omega)).trans ((up_ne (by omega)).trans (up_ne (by omega))))))))) (by simp (disch := omega) only [up_ne, up_eq]; omega)⟩
  · refine rlN.mk (by simp (disch := omega) only [up_ne, up_eq]; exact b1) (by simp (disch := omega) only [up_ne, up_eq]; exact b2) (by simp (disch := omega) only [up_ne, up_eq]; exact b3) (by simp (disch := omega) only [up_ne, up_eq]) (by simp (disch := omega) only [up_ne, up_eq]; exact b5) (fun p g0 g1 => ?_) (fun e g0 g1 => ?_) (fun i g0 g1 => ?_)
    · simp (disch := omega) only [up_ne, up_eq] at g1
      have b := b6 p g0 g1
      simp (disch := omega) only [up_ne, up_eq]; exact b
    · rw [up_eq ⟨rfl, rfl⟩] at g1
      by_cases q : e = n
      · subst q
        rw [show 15 + 7 * e = 15 + 7 * e + 0 by omega]
        simp (disch := omega) only [up_ne, up_eq]; exact ⟨trivial, trivial⟩
      · have b := b7 e g0 (by omega)
        simp (disch := omega) only [up_ne, up_eq]; exact b
    · simp (disch := omega) only [up_ne, up_eq]; exact b8 i g0 g1
  · generalize hA' : (up (up (up (up (up (up (up (up A 430 (15 + 7 * n + 2) p) 430 (15 + 7 * n + 3) t) 430 (15 + 7 * n + 4) d) 430 (15 + 7 * n + 5) g) 430 (15 + 7 * n + 6) 0) 430 (15 + 7 * n + 0) d) 430 (15 + 7 * n + 1) 0) 430 14 (n + 1)) = A'
    have e14 : A' 430 14 = n + 1 := by rw [← hA']; exact up_eq ⟨rfl, rfl⟩
    have e0 : A' 430 0 = A 430 0 := by rw [← hA']; simp (disch := omega) only [up_ne, up_eq]
    have eo : ∀ j : Int, 15 ≤ j → j < 15 + 7 * n → A' 430 j = A 430 j := fun j q0 q1 => by rw [← hA']; simp (disch := omega) only [up_ne, up_eq]
    have en : A' 430 (15 + 7 * n + 2) = p ∧ A' 430 (15 + 7 * n + 3) = t ∧ A' 430 (15 + 7 * n + 4) = d ∧ A' 430 (15 + 7 * n + 5) = g ∧ A' 430 (15 + 7 * n + 6) = 0 := by
      rw [← hA']
      refine ⟨?_, ?_, ?_, ?_, ?_⟩ <;> simp (disch := omega) only [up_ne, up_eq]
    have hz : ((n.toNat : Nat) : Int) = n := Int.toNat_of_nonneg hc.1
    have hT0 : tiR A' 430 (n.toNat : Int) = 0 := by unfold tiR; rw [hz]; exact en.2.2.2.2
    have hk9 := h.1.2.2.2.2.1
    have tbf : ∀ c : Nat, c < n.toNat → ∀ e : Nat, n ≤ (e : Int) → tb (A 430 (15 + 7 * (c : Int) + 6)) e = false := fun c q e q2 => (hk9 c (by omega) (by omega)).2.2.2.2.2.2 e (by omega)
    unfold rlK
    rw [e14, e0, show (n + 1).toNat = n.toNat + 1 by omega, show (49 : Int) + 160 = 209 by decide, show (49 : Int) + 161 = 210 by decide, show (49 : Int) + 162 = 211 by decide, show (49 : Int) + 163 = 212 by decide, show (49 : Int) + 164 = 213 by decide, show (49 : Int) + 165 = 214 by decide]
    intro c g0 g1
    by_cases q : c = n
    · subst q
      rw [en.1, en.2.1, en.2.2.1, en.2.2.2.1, en.2.2.2.2]
      have eh : hangT (tiR A' 430) (c.toNat + 1) c = shl32 1 c := by
        unfold hangT
        rw [hk_n (by omega) hT0 (shl4i hc), ← hz]
        refine hk_i (by omega) (fun e he => ?_) 12
        unfold tiR
        rw [eo _ (by omega) (by omega)]
        exact tbf e (by omega) _ (by omega)
      rw [eh]
      refine ⟨⟨?_, hp.2⟩, ?_, ?_, ?_, ?_, ?_, fun e _ => tb_0 e⟩ <;> simp (disch := omega) only [up_ne, up_eq]
    · obtain ⟨⟨k1, k2⟩, k3, k4, k5, k6, k7, k8⟩ := hk9 c g0 (by omega)
      rw [eo (15 + 7 * c + 2) (by omega) (by omega), eo (15 + 7 * c + 3) (by omega) (by omega), eo (15 + 7 * c + 4) (by omega) (by omega), eo (15 + 7 * c + 5) (by omega) (by omega), eo (15 + 7 * c + 6) (by omega) (by omega)]
      have eh : hangT (tiR A' 430) (n.toNat + 1) c = hangT (tiR A 430) (A 430 14).toNat c := by
        rw [hn]
        refine (hk_n (by omega) hT0 (shl4i (by omega)) 12).trans (hangT_c fun e he => ?_)
        unfold tiR
        exact eo _ (by omega) (by omega)
      rw [eh]
      refine ⟨⟨?_, k2⟩, ?_, ?_, ?_, ?_, ?_, fun e he => k8 e (by omega)⟩
      · simp (disch := omega) only [up_ne, up_eq]; exact k1
      · simp (disch := omega) only [up_ne, up_eq]; exact k3
      · simp (disch := omega) only [up_ne, up_eq]; exact k4
      · simp (disch := omega) only [up_ne, up_eq]; exact k5
      · simp (disch := omega) only [up_ne, up_eq]; exact k6
      · simp (disch := omega) only [up_ne, up_eq]; exact k7
