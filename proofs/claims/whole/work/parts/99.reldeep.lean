/-- no DEPTH is above the one told, now and in the steps -/
def DI (A : Me) (r : Int) : Prop := ∀ c : Int, 0 ≤ c → c < A r 14 → (1 ≤ A r (15 + 7 * c + 4) ∧ A r (15 + 7 * c + 0) ≤ A r (15 + 7 * c + 4)) ∧ ∀ u : Int, 0 ≤ u → u < A r 3 → c < A r (192 + 64 * u) → A r (192 + 64 * u + 5 + 2 * c) ≤ A r (15 + 7 * c + 4)
theorem DI.dp {A A' : Me} {r : Int} (h : DI A r) (w3 : A r 3 ≤ 30) (w14 : A r 14 ≤ 12) (hA : ∀ j : Int, j = 14 ∨ j = 3 ∨ (15 ≤ j ∧ j < 99 ∧ (j - 15) % 7 = 4) ∨ (192 ≤ j ∧ j < 2112) → A' r j = A r j) (hd : ∀ c : Int, 0 ≤ c → c < A r 14 → A' r (15 + 7 * c + 0) ≤ A r (15 + 7 * c + 4)) : DI A' r := by
  unfold DI
  rw [hA 14 (by omega), hA 3 (by omega)]
  intro c g0 g1
  obtain ⟨h1, h2⟩ := h c g0 g1
  rw [hA (15 + 7 * c + 4) (by omega)]
  refine ⟨⟨h1.1, hd c g0 g1⟩, fun u u0 u1 => ?_⟩
  rw [hA (192 + 64 * u) (by omega), hA (192 + 64 * u + 5 + 2 * c) (by omega)]
  exact h2 u u0 u1
theorem DI.of {A A' : Me} {r : Int} (h : DI A r) (w3 : A r 3 ≤ 30) (w14 : A r 14 ≤ 12) (hA : ∀ j : Int, j = 14 ∨ j = 3 ∨ (15 ≤ j ∧ j < 99 ∧ ((j - 15) % 7 = 0 ∨ (j - 15) % 7 = 4)) ∨ (192 ≤ j ∧ j < 2112) → A' r j = A r j) : DI A' r :=
  h.dp w3 w14 (fun j q => hA j (by omega)) (fun c g0 g1 => by rw [hA _ (by omega)]; exact (h c g0 g1).1.2)
theorem di_bc {A : Me} (h : DI A 430) (hW : WA A) {c t d : Int} (hc : 0 ≤ c ∧ c < 12) (hd : c < A 430 14 → d ≤ A 430 (15 + 7 * c + 4)) : DI (bcA A c t d) 430 := by
  have w12 := wa_12 hW
  have w14 := wa_14 hW
  refine h.dp (wa_3 hW).2 (wa_14 hW).2 (fun j q => bcA_o w12 hc (by omega)) (fun e g0 g1 => ?_)
  by_cases q : e = c
  · subst q
    have x : bcA A e t d 430 (15 + 7 * e + 0) = d := by
      unfold bcA
      have y : up (up A 430 (15 + 7 * e + 1) t) 430 (15 + 7 * e + 0) d 430 12 = A 430 12 := by rw [up_ne (by omega), up_ne (by omega)]
      rw [wrA_o (by rw [y]; exact w12) (by omega), up_eq ⟨rfl, rfl⟩]
    rw [x]; exact hd g1
  · rw [bcA_o w12 hc (by omega)]; exact (h e g0 g1).1.2
theorem di_dm {A : Me} (h : DI A 430) (hW : WA A) {n : Nat} (hn : A 430 14 = (n : Int)) {k : Int} : ∀ i : Nat, i ≤ n → DI (dmS A n k i).1 430 := by
  have w14 := wa_14 hW
  intro i
  induction i with
  | zero => intro _; exact h
  | succ i ih =>
    intro hi
    have h1 := ih (by omega)
    have w := dmS_w hW (n := n) (by omega) (k := k) i (by omega)
    by_cases q : (dmS A n k i).2 < k ∧ cbk (dmS A n k i).1 n i
    · rw [dmS_t q]
      exact di_bc h1 w.1 (by omega) (fun g => (h1 i (by omega) g).1.1)
    · rw [dmS_f q]; exact h1
theorem di_gn {A : Me} (h : DI A 430) (hY : HY A) {g : Int} : ∀ i : Nat, i ≤ 12 → DI (gnS A g i) 430 := by
  intro i
  induction i with
  | zero => intro _; exact h
  | succ i ih =>
    intro hi
    have h1 := ih (by omega)
    have w := gnS_h hY (g := g) i (by omega)
    by_cases q : and32 (shr32 g i) 1 = 1 ∧ gnS A g i 430 (15 + 7 * (i : Int) + 1) = 0
    · rw [gnS_t q]
      exact di_bc h1 w.1.1 (by omega) (fun x => by have := (h1 i (by omega) x).1.1; omega)
    · rw [gnS_f q]; exact h1
theorem di_dpA {A : Me} (h : DI A 430) (hW : WA A) {n : Int} (hn : n ≤ 12) : DI (dpA A n) 430 := by
  refine h.dp (wa_3 hW).2 (wa_14 hW).2 (fun j q => dpA_no (by omega)) (fun e g0 g1 => ?_)
  have b := (h e g0 g1).1
  unfold dpA
  split
  · rename_i q
    have := q.2.2
    rw [show 15 + 7 * e + 0 + 4 = 15 + 7 * e + 4 by omega] at this
    omega
  · exact b.2
theorem di_ps {A : Me} (h : DI A 430) (hW : WA A) {n : Int} (hn : n ≤ 12) : DI (psA A n) 430 := by
  unfold psA
  split
  · exact (di_dpA h hW hn).of (wa_3 (wa_dp hW hn)).2 (wa_14 (wa_dp hW hn)).2 (fun j q => up_ne (by omega))
  · exact h.of (wa_3 hW).2 (wa_14 hW).2 (fun j q => up_ne (by omega))
theorem di_kp {A : Me} (h : DI A 430) (hW : WA A) : DI (kpA A) 430 := by
  have w3 := wa_3 hW
  have w14 := wa_14 hW
  have o : ∀ j : Int, j ≠ 3 → ¬ (192 ≤ j ∧ j < 2112) → kpA A 430 j = A 430 j := fun j q0 q1 => kpA_o w3 (by omega)
  unfold DI
  rw [o 14 (by decide) (by decide), kpA_r w3]
  intro c g0 g1
  rw [o (15 + 7 * c + 4) (by omega) (by omega), o (15 + 7 * c + 0) (by omega) (by omega)]
  obtain ⟨h1, h2⟩ := h c g0 g1
  refine ⟨h1, fun u u0 u1 => ?_⟩
  have row : rowv A (5 + 2 * c + 0) = A 430 (15 + 7 * c + 0) := (row_2 (by omega) (by decide) rfl).symm
  by_cases q : A 430 3 = 30
  · rw [if_pos q] at u1
    have eK : kpA A = up (pk (up (cpy A 430 256 430 192 1856) 430 3 29) 2048 64) 430 3 30 := if_pos q
    by_cases qu : u = 29
    · subst qu
      intro _
      rw [eK]
      have x : up (pk (up (cpy A 430 256 430 192 1856) 430 3 29) 2048 64) 430 3 30 430 (192 + 64 * 29 + 5 + 2 * c) = A 430 (15 + 7 * c + 0) := by
        refine (up_ne (by omega)).trans ((pk_i (by omega)).trans ?_)
        rw [show 192 + 64 * 29 + 5 + 2 * c - 2048 = 5 + 2 * c + 0 by omega, ← row]
        exact rowv_c (fun j n3 nr => (up_ne (by omega)).trans (cpy_out (by omega))) (by omega) (by omega)
      rw [x]; exact h1.2
    · have sh : ∀ t : Int, 0 ≤ t → t < 64 → kpA A 430 (192 + 64 * u + t) = A 430 (192 + 64 * (u + 1) + t) := fun t g2 g3 => by
        rw [eK]
        refine (up_ne (by omega)).trans ((pk_o (by omega)).trans ((up_ne (by omega)).trans ((cpy_in ⟨rfl, by omega⟩).trans ?_)))
        congr 1; omega
      have s0 := sh 0 (by decide) (by decide)
      rw [Int.add_zero, Int.add_zero] at s0
      rw [s0, show 192 + 64 * u + 5 + 2 * c = 192 + 64 * u + (5 + 2 * c) by omega, sh _ (by omega) (by omega), show 192 + 64 * (u + 1) + (5 + 2 * c) = 192 + 64 * (u + 1) + 5 + 2 * c by omega]
      exact h2 (u + 1) (by omega) (by omega)
  · rw [if_neg q] at u1
    have eK : kpA A = up (pk A (192 + 64 * A 430 3) 64) 430 3 (A 430 3 + 1) := if_neg q
    by_cases qu : u = A 430 3
    · subst qu
      intro _
      rw [eK]
      have x : up (pk A (192 + 64 * A 430 3) 64) 430 3 (A 430 3 + 1) 430 (192 + 64 * A 430 3 + 5 + 2 * c) = A 430 (15 + 7 * c + 0) := by
        refine (up_ne (by omega)).trans ((pk_i (by omega)).trans ?_)
        rw [show 192 + 64 * A 430 3 + 5 + 2 * c - (192 + 64 * A 430 3) = 5 + 2 * c + 0 by omega]
        exact row
      rw [x]; exact h1.2
    · have sh : ∀ j : Int, 192 + 64 * u ≤ j → j < 192 + 64 * u + 64 → kpA A 430 j = A 430 j := fun j g2 g3 => by
        rw [eK]
        exact (up_ne (by omega)).trans (pk_o (by omega))
      rw [sh _ (by omega) (by omega), sh _ (by omega) (by omega)]
      exact h2 u u0 (by omega)
theorem di_un {A : Me} (h : DI A 430) (hW : WA A) {n np : Nat} (hn : A 430 14 = (n : Int)) (hp : A 430 0 = (np : Int)) (h3 : A 430 3 ≠ 0) : DI (unA (up A 430 3 (A 430 3 - 1)) (192 + 64 * (A 430 3 - 1)) n np) 430 := by
  have w3 := wa_3 hW
  have w0 := wa_0 hW
  have w14 := wa_14 hW
  have hB : DI (up A 430 3 (A 430 3 - 1)) 430 := by
    unfold DI
    rw [up_ne (show ¬ ((430 : Int) = 430 ∧ (14 : Int) = 3) by omega), up_eq ⟨rfl, rfl⟩]
    intro c g0 g1
    rw [up_ne (by omega), up_ne (by omega)]
    refine ⟨(h c g0 g1).1, fun u u0 u1 => ?_⟩
    rw [up_ne (by omega), up_ne (by omega)]
    exact (h c g0 g1).2 u u0 (by omega)
  have b14 : up A 430 3 (A 430 3 - 1) 430 14 = A 430 14 := up_ne (by omega)
  refine hB.dp (by rw [up_eq ⟨rfl, rfl⟩]; omega) (by rw [b14]; omega) (fun j q => una_o (by omega)) (fun c g0 g1 => ?_)
  rw [b14] at g1
  have ea : ∀ j : Int, j ≠ 3 → up A 430 3 (A 430 3 - 1) 430 j = A 430 j := fun j q => up_ne (by omega)
  rw [ea _ (by omega)]
  unfold unA
  rw [cpy_out (by omega), uq_o (by omega), uca_in ⟨g0, by omega⟩ (by decide)]
  unfold ucv
  rw [cpy_out (by omega), ea _ (by omega)]
  split
  · rename_i q
    rw [cpy_out (by omega), ea _ (by omega), Int.add_zero]
    exact (h c g0 g1).2 _ (by omega) (by omega) q
  · rw [if_pos rfl, cpy_out (by omega), ea _ (by omega)]; exact Int.le_refl _
theorem di_cp {A : Me} {r r' : Int} (h : DI A r) (w3 : A r 3 ≤ 30) (w14 : A r 14 ≤ 12) : DI (cpy A r 0 r' 0 2142) r' := by
  have e : ∀ j : Int, 0 ≤ j → j < 2142 → cpy A r 0 r' 0 2142 r' j = A r j := fun j q0 q1 => (cpy_in ⟨rfl, by omega⟩).trans (by congr 1; omega)
  unfold DI
  rw [e 14 (by decide) (by decide), e 3 (by decide) (by decide)]
  intro c g0 g1
  rw [e _ (by omega) (by omega), e _ (by omega) (by omega)]
  refine ⟨(h c g0 g1).1, fun u u0 u1 => ?_⟩
  rw [e _ (by omega) (by omega), e _ (by omega) (by omega)]
  exact (h c g0 g1).2 u u0 u1
/-- a press -/
theorem di_pn {A : Me} (h : DI A 430) (hY : HY A) {n : Nat} (hn : A 430 14 = (n : Int)) {c : Int} (hc : 0 ≤ c ∧ c < A 430 14) : DI (pnM A n c) 430 := by
  have w14 := wa_14 hY.1
  have hc2 : 0 ≤ c ∧ c < 12 := by omega
  have y1 := hy_1 hY (n := n) hc2
  have y2 := hy_2 y1 (n := n) (c := c)
  have l0 : 0 ≤ lwP A n c := (lwV_b (M := A) (n := n) (c := c) (t := A 430 2) (u := 0) (g := if nmV A n c 3 = 2 then 1 else A 430 13 / 2) (o := 9) (by decide)).1
  have d1 : DI (pn1 A n c) 430 := by
    refine h.dp (wa_3 hY.1).2 w14.2 (fun j q => (up_ne (by omega)).trans (lxM_o (by omega))) (fun e g0 g1 => ?_)
    have b := (h e g0 g1).1
    have w0 := wc_0 hY.1 (c := e) (by omega)
    unfold pn1
    by_cases q : e = c
    · subst q
      rw [up_eq ⟨rfl, rfl⟩]
      unfold hld
      (repeat' split) <;> omega
    · rw [up_ne (by omega), lxM_o (by omega)]; exact b.2
  have d2 : DI (pn2 (pn1 A n c) n c) 430 := d1.of (wa_3 y1.1).2 (wa_14 y1.1).2 (fun j q => (up_ne (by omega)).trans (lxM_o (by omega)))
  have y3 := hy_3 y2 (n := n) (by omega) (c := c) (s := pnC (pn1 A n c) n c) hc2
  have d3 : DI (pn3 (pn2 (pn1 A n c) n c) n c (pnC (pn1 A n c) n c)) 430 := by
    unfold pn3
    split
    · exact di_bc d2 y2.1 hc2 (fun x => by have := (d2 c hc.1 x).1.1; omega)
    · split
      · exact di_gn d2 y2 n (by omega)
      · exact d2
  have b2 := wc_2 y3.1.1 (c := c) hc2
  refine d3.of (wa_3 y3.1.1).2 (wa_14 y3.1.1).2 (fun j q => ?_)
  unfold pnM pn4 pnX
  exact (up_ne (by omega)).trans (lxM_o (by omega))
theorem di_hp {A : Me} (h : DI A 430) (hY : HY A) {n : Nat} (hn : A 430 14 = (n : Int)) {u : Int} (hu : 0 ≤ u) : DI (hpM A n u) 430 := by
  have w14 := wa_14 hY.1
  unfold hpM
  split
  · split
    · exact di_ps h hY.1 (by omega)
    · exact h
  · split
    · exact h
    · have hc : 0 ≤ u % (n : Int) ∧ u % (n : Int) < A 430 14 := ⟨Int.emod_nonneg _ (by omega), by have := Int.emod_lt_of_pos u (show (0 : Int) < n by omega); omega⟩
      split
      · exact di_dm h hY.1 hn n (Nat.le_refl n)
      · split
        · split
          · exact di_bc h hY.1 (by omega) (fun _ => Int.le_refl _)
          · exact h
        · split
          · exact di_pn h hY hn hc
          · exact h
theorem di_ss {A : Me} (h : DI A 430) (hY : HY A) {n : Nat} (hn : A 430 14 = (n : Int)) : ∀ k : Nat, DI (ssS A n k) 430 := by
  have w14 := wa_14 hY.1
  intro k
  induction k with
  | zero => exact h
  | succ k ih =>
    have o := ssS_o hY (n := n) (by omega) k
    have yd := hy_dr o.1
    exact di_hp (ih.of (wa_3 o.1.1).2 (wa_14 o.1.1).2 (fun j q => up_ne (by omega))) yd ((up_ne (by omega)).trans ((o.2 430 14 (by omega) (by omega)).trans hn)) (wa_11 o.1.1).1
theorem di_ap {A : Me} (h : DI A 430) (hW : WA A) {n : Int} (hn : n ≤ 12) : ∀ i : Nat, A 430 10 + i ≤ 9999 → DI (apS A n i) 430 := by
  intro i
  induction i with
  | zero => intro _; exact h
  | succ i ih =>
    intro hi
    have w := (apS_w hW hn i (by omega)).1
    exact di_ps (di_kp (ih (by omega)) w) (wa_kp w) hn
/-- FORETOLD -/
theorem fo_eq {A : Me} {c : Int} (h0 : 0 ≤ A 430 10) (hd : A 430 (15 + 7 * c + 0) ≤ A 430 (15 + 7 * c + 4)) : ∀ k : Nat, foA A c (A 430 10) k = if A 430 (15 + 7 * c + 1) = 0 then min (A 430 (15 + 7 * c + 4)) (A 430 (15 + 7 * c + 0) + ((A 430 10 + k) / 10 - A 430 10 / 10)) else A 430 (15 + 7 * c + 0) := by
  intro k
  induction k with
  | zero =>
    show A 430 (15 + 7 * c + 0) = _
    split <;> omega
  | succ k ih =>
    by_cases q : ((A 430 10 + k) % 10 = 9 ∧ A 430 (15 + 7 * c + 1) = 0) ∧ foA A c (A 430 10) k < A 430 (15 + 7 * c + 4)
    · rw [foA_t q]
      rw [ih, if_pos q.1.2] at q ⊢
      rw [if_pos q.1.2]
      omega
    · rw [foA_f q]
      rw [ih] at q ⊢
      by_cases z : A 430 (15 + 7 * c + 1) = 0
      · rw [if_pos z] at q ⊢
        rw [if_pos z]
        omega
      · rw [if_neg z, if_neg z]; omega
theorem v_fo {C A : Me} (h : rlR C A) (hD : DI A 430) {k c : Int} : fftV C k c = if (1 ≤ k ∧ k ≤ 60) ∧ (0 ≤ c ∧ c ≤ A 430 14 - 1) then foA A c (A 430 10) (min k (9999 - A 430 10)).toNat else -1 := by
  have s := h.sc
  have w10 := wa_10 h.hy.1
  unfold fftV
  rw [s.2.1.2.2.2.1]
  by_cases q : (1 ≤ k ∧ k ≤ 60) ∧ (0 ≤ c ∧ c ≤ A 430 14 - 1)
  · have kc := h.cr (c := c) (by omega) (by omega)
    have f := fo_eq (A := A) (c := c) w10.1 (hD c (by omega) (by omega)).1.2 (min k (9999 - A 430 10)).toNat
    rw [if_neg (by omega), if_pos q, f]
    unfold dbC
    rw [s.2.1.2.2.2.1, s.2.1.1, kc.2.2.1, kc.2.2.2.2.2.2.1, kc.2.2.2.2.2.2.2]
    have e : A 430 10 + (((min k (9999 - A 430 10)).toNat : Nat) : Int) = min (A 430 10 + k) 9999 := by omega
    rw [e]
    by_cases z : A 430 (15 + 7 * c + 1) = 0
    · rw [if_pos ⟨by omega, z⟩, if_pos z]
    · rw [if_neg (fun w => z w.2), if_neg z]
  · rw [if_pos (by omega), if_neg q]
