theorem rnS_c {dp nm T T' : Int → Int} {p a : Int} {s : ES} : ∀ j : Nat, (∀ i : Int, p + 2 * a ≤ i → i < p + 2 * (a + (j : Int)) → T' i = T i) → rnS dp nm T' p a s j = rnS dp nm T p a s j := by
  intro j
  induction j with
  | zero => intro _; rfl
  | succ j ih =>
    intro h
    show stp dp nm (T' (p + 2 * (a + (j : Int)))) (T' (p + 2 * (a + (j : Int)) + 1)) (rnS dp nm T' p a s j) = stp dp nm (T (p + 2 * (a + (j : Int)))) (T (p + 2 * (a + (j : Int)) + 1)) (rnS dp nm T p a s j)
    rw [ih (fun i a b => h i a (by omega)), h _ (by omega) (by omega), h _ (by omega) (by omega)]
theorem lwI_c {T T' : Int → Int} {t u : Int} : ∀ n : Nat, (∀ q : Nat, q < n → T' (705 * t + 1 + 4 * (q : Int)) = T (705 * t + 1 + 4 * (q : Int))) → lwI T' t u n = lwI T t u n := by
  intro n
  induction n with
  | zero => intro _; rfl
  | succ n ih =>
    intro h
    unfold lwI
    rw [ih (fun q hq => h q (by omega)), h n (by omega)]
theorem lwI_g {T : Int → Int} {t u : Int} : ∀ n : Nat, 0 ≤ lwI T t u n → ∃ i : Nat, i < n ∧ lwI T t u n = (i : Int) ∧ T (705 * t + 1 + 4 * (i : Int)) = u := by
  intro n
  induction n with
  | zero => intro h; exact absurd h (show ¬ (0 : Int) ≤ -1 by decide)
  | succ n ih =>
    intro h
    unfold lwI at h ⊢
    by_cases q : 0 ≤ lwI T t u n
    · obtain ⟨i, a, b, c⟩ := ih q
      rw [if_pos q]
      exact ⟨i, by omega, b, c⟩
    · rw [if_neg q] at h ⊢
      by_cases w : T (705 * t + 1 + 4 * (n : Int)) = u
      · rw [if_pos w]; exact ⟨n, by omega, rfl, w⟩
      · rw [if_neg w] at h; exact absurd h (by decide)
/-- a text that counts is a whole one -/
def TXE (T : Int → Int) (t : Int) : Prop := (0 ≤ T (705 * t) ∧ T (705 * t) ≤ 24) ∧ ∀ l : Nat, (l : Int) < T (705 * t) → (0 ≤ T (705 * t + 1 + 4 * (l : Int)) ∧ T (705 * t + 1 + 4 * (l : Int)) ≤ 10) ∧ (T (705 * t + 1 + 4 * (l : Int)) ≤ 2 → XOK T t l) ∧ (T (705 * t + 1 + 4 * (l : Int)) = 10 → 1 ≤ T (705 * t + 1 + 4 * (l : Int) + 1) ∧ T (705 * t + 1 + 4 * (l : Int) + 1) ≤ 60)
/-- the same cells of a text -/
def TXQ (T T' : Int → Int) (t : Int) : Prop := ∀ j : Int, 705 * t ≤ j → j < 705 * t + 705 → T' j = T j
theorem XOK.tt {T T' : Int → Int} {t l : Int} (h : XOK T t l) (hl : 0 ≤ l ∧ l < 24) (e : TXQ T T' t) : XOK T' t l := by
  obtain ⟨x0, x1, x2, x3⟩ := h
  unfold XOK
  rw [e (705 * t + 1 + 4 * l + 1) (by omega) (by omega), e (705 * t + 1 + 4 * l + 2) (by omega) (by omega)]
  refine ⟨x0, x1, x2, fun dp nm X Y b1 b2 j hj => ?_⟩
  have z := x3 dp nm X Y b1 b2 j hj
  rw [e (705 * t + 97 + 2 * (T (705 * t + 1 + 4 * l + 1) + (j : Int))) (by omega) (by omega), e (705 * t + 97 + 2 * (T (705 * t + 1 + 4 * l + 1) + (j : Int)) + 1) (by omega) (by omega), rnS_c j (fun i a b => e i (by omega) (by omega))]
  exact z
theorem TXE.tt {T T' : Int → Int} {t : Int} (h : TXE T t) (e : TXQ T T' t) : TXE T' t := by
  have e0 := e (705 * t) (by omega) (by omega)
  have h24 := h.1.2
  refine ⟨by rw [e0]; exact h.1, fun l hl => ?_⟩
  rw [e0] at hl
  obtain ⟨k0, k1, k2⟩ := h.2 l hl
  rw [e (705 * t + 1 + 4 * (l : Int)) (by omega) (by omega), e (705 * t + 1 + 4 * (l : Int) + 1) (by omega) (by omega)]
  exact ⟨k0, fun w => (k1 w).tt (by omega) e, k2⟩
theorem rlX.tt {C : Me} {T T' : Int → Int} {t : Int} (h : rlX C T t) (hx : TXE T t) (e : TXQ T T' t) : rlX C T' t := by
  obtain ⟨h1, h2, h3⟩ := h
  have e0 := e (705 * t) (by omega) (by omega)
  have h24 := hx.1
  refine ⟨by rw [e0]; exact h1, fun i i0 i1 => ?_, fun l m0 m1 => ?_⟩
  · rw [e0] at i1
    rw [e (705 * t + 1 + 4 * i) (by omega) (by omega), e (705 * t + 1 + 4 * i + 1) (by omega) (by omega), e (705 * t + 1 + 4 * i + 2) (by omega) (by omega), e (705 * t + 1 + 4 * i + 3) (by omega) (by omega)]
    exact h2 i i0 i1
  · have el : lwI T' t l (T' (705 * t)).toNat = lwI T t l (T (705 * t)).toNat := by
      rw [e0]
      exact lwI_c _ (fun q hq => e _ (by omega) (by omega))
    unfold rlW
    rw [el]
    rcases h3 l m0 m1 with w | ⟨w1, w2, w3⟩
    · exact Or.inl w
    · refine Or.inr ⟨w1, w2, fun dp nm nk X Y Z b1 b2 b3 => (w3 dp nm nk X Y Z b1 b2 b3).trans ?_⟩
      obtain ⟨i, hi, ei, es⟩ := lwI_g _ w2
      obtain ⟨x0, x1, x2, -⟩ := (hx.2 i (by omega)).2.1 (by rw [es]; omega)
      rw [ei]
      unfold aVal
      rw [e (705 * t + 1 + 4 * (i : Int) + 1) (by omega) (by omega), e (705 * t + 1 + 4 * (i : Int) + 2) (by omega) (by omega), rnS_c _ (fun j a b => e j (by omega) (by omega))]
/-- behind a text, read or refused -/
theorem rl_tx {C A C' A' : Me} {t k : Int} (h : rlR C A) (h1 : A 430 1 = t) (ht : t < 4) (hC : ∀ a j : Int, a ≠ 2 → ¬ (15 + 8 * t ≤ a ∧ a ≤ 15 + 8 * t + 7) → ¬ (a = 49 ∧ j = 1) → C' a j = C a j) (hA : ∀ a j : Int, a = 430 ∨ a = 431 → ¬ (a = 430 ∧ j = 1) → A' a j = A a j) (hT : ∀ j : Int, j < 705 * t → A' 432 j = A 432 j) (k0 : C' 49 1 = k) (k1 : A' 430 1 = k) (hk : k = t ∨ (k = t + 1 ∧ rlX C' (A' 432) t ∧ TXE (A' 432) t)) (hF : (0 ≤ C' (15 + 8 * t) 1 ∧ C' (15 + 8 * t) 1 ≤ 300) ∧ (0 ≤ C' (15 + 8 * t) 0 ∧ C' (15 + 8 * t) 0 ≤ 24)) (hD : rlD C' A') : rlR C' A' := by
  have w0 := wa_0 h.hy.1
  have w1 := wa_1 h.hy.1
  have w14 := wa_14 h.hy.1
  have kb : t ≤ k ∧ k ≤ 4 := by rcases hk with q | q <;> omega
  have X : ∀ t' : Int, 0 ≤ t' → t' < k → rlX C' (A' 432) t' ∧ TXE (A' 432) t' := fun t' g0 g1 => by
    by_cases q : t' = t
    · subst q
      rcases hk with w | w
      · omega
      · exact w.2
    · have x := h.2.2.1 t' g0 (by omega)
      have y : TXE (A 432) t' := h.hy.2.2 t' g0 (by omega)
      have e : TXQ (A 432) (A' 432) t' := fun j a b => hT j (by omega)
      exact ⟨(x.of (fun a j a0 a1 => hC a j (by omega) (by omega) (by omega))).tt y e, y.tt e⟩
  have s := h.sc.1
  have hW : WA A' := wa_o (wu_1 h.hy.1 (v := k) (by omega)) (fun j _ _ => by
    by_cases q : j = 1
    · subst q; rw [k1]; exact (up_eq ⟨rfl, rfl⟩).symm
    · rw [up_ne (by omega)]; exact hA 430 j (by omega) (by omega))
  have eo : ∀ j : Int, j ≠ 1 → A' 430 j = A 430 j := fun j q => hA 430 j (by omega) (by omega)
  have ei : ∀ j : Int, A' 431 j = A 431 j := fun j => hA 431 j (by omega) (by omega)
  have l0 : A 430 0 ≤ A' 430 0 := by rw [eo 0 (by decide)]; exact Int.le_refl _
  have l14 : A 430 14 ≤ A' 430 14 := by rw [eo 14 (by decide)]; exact Int.le_refl _
  refine ⟨⟨⟨?_, k0.trans k1.symm, ?_⟩, h.1.2.1.of (fun a j q0 q1 => hC a j (by omega) (by omega) (by omega)) (fun j q => eo j (by omega)) (by omega) (by omega), h.1.2.2.1.of (wr_a h.hy.1) (fun a j q0 q1 => hC a j (by omega) (by omega) (by omega)) (fun j q => eo j (by omega)) l0 l14, h.1.2.2.2.1.of (by omega) (fun a j q0 q1 => hC a j (by omega) (by omega) (by omega)) (fun j q => eo j (by omega)), h.1.2.2.2.2.1.of (by omega) (fun a j q0 q1 => hC a j (by omega) (by omega) (by omega)) (fun j q => eo j (by omega)) l0, h.1.2.2.2.2.2.of (wr_a h.hy.1) (fun a j q0 q1 => hC a j (by omega) (by omega) (by omega)) (fun j q => eo j (by omega)) l14⟩, h.2.1.of (wr_i h.2.2.2.2.2.2.1) (fun a j q0 q1 => hC a j (by omega) (by omega) (by omega)) (fun j _ _ => ei j) (fun j _ => ei j), fun t' g0 g1 => (X t' g0 (by omega)).1, hD, ⟨fun t' g0 g1 => ?_, fun j g0 g1 => ?_⟩, ⟨hW, ?_, fun t' g0 g1 => (X t' g0 (by omega)).2⟩, ?_, ?_, ?_⟩
  · rw [hC 49 0 (by omega) (by omega) (by omega), eo 13 (by decide)]; exact s.1
  · rw [hC 49 2 (by omega) (by omega) (by omega), eo 2 (by decide)]; exact s.2.2
  · by_cases q : t' = t
    · subst q; exact hF
    · rw [hC (15 + 8 * t') 1 (by omega) (by omega) (by omega), hC (15 + 8 * t') 0 (by omega) (by omega) (by omega)]
      exact h.2.2.2.2.1.1 t' g0 g1
  · rw [hC 10 j (by omega) (by omega) (by omega)]
    exact h.2.2.2.2.1.2 j g0 g1
  · rw [eo 2 (by decide), k1]
    have := h.hy.2.1
    omega
  · have w := h.2.2.2.2.2.2.1
    intro j g0 g1
    rw [ei j]; exact w j g0 g1
  · rw [ei 1, k1]
    have := h.2.2.2.2.2.2.2.1
    omega
  · rw [ei 1, ei 2]
    exact h.2.2.2.2.2.2.2.2
/-- TEXT -/
theorem op_text {M : Me} (h : INV M) : OpR kX10_text kX11_text 94 13 [] M := by
  have s := h.1.sc.1.2.1
  have w1 := wa_1 h.1.hy.1
  have w3 := (wa_3 h.1.hy.1).2
  have w14 := (wa_14 h.1.hy.1).2
  obtain ⟨⟨d0, d1, d2⟩, -, -, -⟩ := h.1.2.2.2.1
  obtain ⟨n, hn⟩ : ∃ n : Nat, M 429 4 = (n : Int) := ⟨(M 429 4).toNat, by omega⟩
  have hn2 : (M 2 0).toNat = n := by omega
  have hc : ∀ x y z : Int, ∃ x' y' z' : Int, Con kX10_text 94 0 0 ((1, 0) :: []) (Sf x y z) M (Ex (some (0, tdV M)) (Sf x' y' z') (tdM M)) := fun x y z => ⟨_, y, z, f_text h.1.ci (by omega)⟩
  by_cases q4 : 4 ≤ M 49 1
  · have em : tdM M = M := if_pos q4
    have ev : tdV M = -1 := if_pos (Or.inl q4)
    rw [em, ev] at hc
    have e4 : M 430 1 = 4 := by omega
    refine OpR.mk (f := M) (g := M) (v := some (0, -1)) h hc (fun _ _ _ => rfl) (fun h1 x y z => ?_) (fun _ _ _ _ => rfl) id (fun _ a b => ⟨a, b⟩)
    have m := m_text (x := x) (y := y) (z := z) (M := M) hn (by omega) w1 (fun w => absurd e4 w)
    rwa [show txV M n = -1 from if_pos e4, show txM M n = M from if_pos e4] at m
  · obtain ⟨t, et⟩ : ∃ t : Int, M 430 1 = t := ⟨_, rfl⟩
    have et2 : M 49 1 = t := s.trans et
    have er : tdR M = readC M (15 + 8 * t) n := by unfold tdR; rw [et2, hn2]
    have gp : GP n (15 + 8 * t) (readC M (15 + 8 * t) n) := GP.read (by omega) (by omega) (by omega)
    have fx : FX (15 + 8 * t) M (readC M (15 + 8 * t) n).2 := FX.read
    obtain ⟨⟨p0, p1, p2, p3, p4⟩, -⟩ := gp
    obtain ⟨F, hF⟩ : ∃ F : Me, F = shM (tdR M).2 0 := ⟨_, rfl⟩
    have hFu : F = up (readC M (15 + 8 * t) n).2 2 0 0 := by rw [hF, er]; exact if_pos (by omega)
    have em : tdM M = if (readC M (15 + 8 * t) n).1 = 0 then F else up F 49 1 (t + 1) := by
      rw [hF, ← et2, ← hn2]
      have := (if_neg q4 : tdM M = if (tdR M).1 = 0 then shM (tdR M).2 0 else up (shM (tdR M).2 0) 49 1 (M 49 1 + 1))
      exact this
    have ev : tdV M = if (readC M (15 + 8 * t) n).1 = 0 then -1 else t := by
      unfold tdV
      rw [er, et2]
      by_cases w : (readC M (15 + 8 * t) n).1 = 0
      · rw [if_pos (Or.inr w), if_pos w]
      · rw [if_neg (fun z => z.elim (fun y => q4 (by omega)) w), if_neg w]
    have Fo : ∀ a j : Int, a ≠ 2 → ¬ (15 + 8 * t ≤ a ∧ a ≤ 15 + 8 * t + 7) → F a j = M a j := fun a j z1 z2 => by
      rw [hFu, up_ne (by omega)]
      exact fx a j (by omega) z2
    have fo : ∀ a j : Int, a ≠ 2 → ¬ (15 + 8 * t ≤ a ∧ a ≤ 15 + 8 * t + 7) → ¬ (a = 49 ∧ j = 1) → tdM M a j = M a j := fun a j z1 z2 z3 => by
      rw [em]
      split
      · exact Fo a j z1 z2
      · rw [up_ne (by omega)]; exact Fo a j z1 z2
    have fp : ∀ j : Int, tdM M (15 + 8 * t) j = (readC M (15 + 8 * t) n).2 (15 + 8 * t) j := fun j => by
      rw [em]
      split
      · rw [hFu, up_ne (by omega)]
      · rw [up_ne (by omega), hFu, up_ne (by omega)]
    have f2 : ∀ j : Int, tdM M 2 j = if j = 0 then 0 else (readC M (15 + 8 * t) n).2 2 j := fun j => by
      have : F 2 j = if j = 0 then 0 else (readC M (15 + 8 * t) n).2 2 j := by
        rw [hFu]
        by_cases w : j = 0
        · rw [if_pos w, w]; exact up_eq ⟨rfl, rfl⟩
        · rw [if_neg w, up_ne (by omega)]
      rw [em]
      split
      · exact this
      · rw [up_ne (by omega)]; exact this
    have f49 : tdM M 49 1 = if (readC M (15 + 8 * t) n).1 = 0 then t else t + 1 := by
      rw [em]
      split
      · rw [Fo 49 1 (by omega) (by omega)]; exact et2
      · exact up_eq ⟨rfl, rfl⟩
    have fX : (readC M (15 + 8 * t) n).1 ≠ 0 → ∀ a j : Int, 15 + 8 * t ≤ a → a ≤ 15 + 8 * t + 7 → tdM M a j = (readC M (15 + 8 * t) n).2 a j := fun w a j z0 z1 => by
      rw [em, if_neg w, up_ne (by omega), hFu, up_ne (by omega)]
    rw [ev] at hc
    generalize hf : tdM M = f at hc fo fp f2 f49 fX
    have fh : ∀ a j : Int, 429 ≤ a → f a j = M a j := fun a j w => fo a j (by omega) (by omega) (by omega)
    have hn4 : f 429 4 = (n : Int) := (fh 429 4 (by decide)).trans hn
    have e1 : f 430 1 = t := (fh 430 1 (by decide)).trans et
    have R : rlR M f → _ := fun h1 => tx_rs h1.2.2.2.1 hn4 (show 0 ≤ t ∧ t ≤ 3 by omega) e1
    generalize readC M (15 + 8 * t) n = r at *
    have gk : rlR M f → txV f n = (if r.1 = 0 then -1 else t) ∧ txM f n 430 1 = (if r.1 = 0 then t else t + 1) ∧ (∀ a j : Int, ¬ (a = 430 ∧ j = 1) → txM f n a j = txA f n a j) := fun h1 => by
      obtain ⟨tk, c⟩ := R h1
      have o1 : txA f n 430 1 = t := (txA_o tk (by omega)).trans e1
      unfold txV txM
      rw [if_neg (show ¬ f 430 1 = 4 by omega), if_neg (show ¬ f 430 1 = 4 by omega)]
      rcases c with ⟨c1, c2, -⟩ | ⟨c1, c2, -⟩
      · rw [if_pos c2, if_pos c2, if_neg c1, if_neg c1, e1]
        exact ⟨rfl, up_eq ⟨rfl, rfl⟩, fun a j w => up_ne w⟩
      · rw [if_neg c2.1, if_neg c2.1, if_pos c1, if_pos c1]
        exact ⟨rfl, o1, fun _ _ _ => rfl⟩
    refine OpR.mk (f := f) (g := txM f n) (v := some (0, if r.1 = 0 then -1 else t)) h hc fh (fun h1 x y z => ?_) (fun h1 a j w => ?_) (fun h1 => ?_) (fun h1 a b => ?_)
    · have m := m_text (x := x) (y := y) (z := z) (M := f) hn4 (by omega) (by omega) (fun _ => (R h1).1)
      rwa [(gk h1).1] at m
    · rw [(gk h1).2.2 a j (by omega)]
      exact txA_o (R h1).1 (by omega)
    · obtain ⟨tk, c⟩ := R h1
      obtain ⟨-, g1, g2⟩ := gk h1
      have z0 := tx_go h1.2.2.2.1 hn4 (show 0 ≤ t ∧ t ≤ 3 by omega) e1
      have aT : ∀ j : Int, txM f n 432 j = (rtR f n).2 432 j := fun j => by
        rw [g2 _ _ (by omega)]
        unfold txA
        rw [up_ne (by omega), up_ne (by omega), up_ne (by omega)]
      have aT2 : txM f n 432 = (rtR f n).2 432 := funext aT
      have a4 : txM f n 429 4 = 0 := by
        rw [g2 _ _ (by omega)]; exact up_eq ⟨rfl, rfl⟩
      have a5 : txM f n 429 5 = (rtR f n).1 := by
        rw [g2 _ _ (by omega)]
        unfold txA
        rw [up_ne (by omega), up_ne (by omega), up_eq ⟨rfl, rfl⟩]
      have a6 : txM f n 429 6 = if (rtR f n).1 = 0 then -1 else (rtR f n).2 429 8 := by
        rw [g2 _ _ (by omega)]
        unfold txA
        rw [up_ne (by omega), up_eq ⟨rfl, rfl⟩]
      refine rl_tx (t := t) (k := if r.1 = 0 then t else t + 1) h1 e1 (by omega) fo (fun a j w1 w2 => ?_) (fun j w => ?_) f49 g1 ?_ ?_ ⟨?_, ?_, ?_, fun j w1 w2 => ?_⟩
      · rw [g2 a j w2]; exact txA_o tk (by omega)
      · rw [aT j, rtI_z rtF _ tk.1 (by rw [z0.2.1.1]; exact z0.2.2.1.2.1) (by rw [z0.2.1.1]; exact w)]
        unfold rtX
        rw [nxT_o (by omega), up_ne (by omega), up_ne (by omega), up_ne (by omega), up_ne (by omega), up_ne (by omega)]
      · rcases c with ⟨c1, c2, c3⟩ | ⟨c1, c2, -⟩
        · rw [if_neg c1, aT2]
          have z := txt_x c3
          exact Or.inr ⟨rfl, z.1.of (fX c1), z.2⟩
        · rw [if_pos c1]; exact Or.inl rfl
      · rw [fp, fp]; exact ⟨p3, p4⟩
      · rw [f2, a4, if_pos rfl]; decide
      · rw [f2, a5, if_neg (by decide)]
        rcases c with ⟨c1, c2, c3⟩ | ⟨c1, c2, c3, c4⟩
        · rw [c2]; exact c3.2.1.2.1
        · exact c3
      · rw [f2, a6, if_neg (by decide)]
        rcases c with ⟨c1, c2, c3⟩ | ⟨c1, c2, c3, c4⟩
        · rw [if_pos c2]; exact c3.2.1.2.2
        · rw [if_neg c2.1]; exact c4
      · rw [a4] at w2; omega
    · have tk := (R h1).1
      have g2 := (gk h1).2.2
      exact ⟨a.of (by rw [fh 430 3 (by decide)]; exact w3) (by rw [fh 430 14 (by decide)]; exact w14) (fun j w => by rw [g2 _ _ (by omega)]; exact txA_o tk (by omega)), b.row (fun j => by rw [g2 _ _ (by omega)]; exact txA_o tk (by omega))⟩
