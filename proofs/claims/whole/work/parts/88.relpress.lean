/-- the hour -/
theorem rl_hr {C A : Me} (h : rlR C A) {v : Int} (hv : 0 ≤ v ∧ v ≤ 9999) : rlR (up C 50 0 v) (up A 430 10 v) := by
  refine h.now (fun a j _ q => up_ne (by omega)) (fun j => up_ne (by omega)) (fun a j _ _ q => up_ne (by unfold nowA at q; omega)) (wu_10 h.hy.1 hv) ?_
  obtain ⟨⟨b1, b2, b3, b4, b5⟩, b6, b7, b8⟩ := h.1.2.1.o
  have w0 := wa_0 h.hy.1
  have w14 := wa_14 h.hy.1
  refine rlN.mk ((up_eq ⟨rfl, rfl⟩).trans (up_eq ⟨rfl, rfl⟩).symm) (by rw [up_ne (by omega), up_ne (by omega)]; exact b2) (by rw [up_ne (by omega), up_ne (by omega)]; exact b3) (by rw [up_ne (by omega), up_ne (by omega)]; exact b4) (by rw [up_ne (by omega), up_ne (by omega)]; exact b5) (fun e g0 g1 => ?_) (fun e g0 g1 => ?_) (fun i g0 g1 => ?_)
  · rw [up_ne (by omega)] at g1
    rw [up_ne (by omega), up_ne (by omega)]; exact b6 e g0 g1
  · rw [up_ne (by omega)] at g1
    rw [up_ne (by omega), up_ne (by omega), up_ne (by omega), up_ne (by omega)]; exact b7 e g0 g1
  · rw [up_ne (by omega), up_ne (by omega)]; exact b8 i g0 g1
theorem dpA_no {M : Me} {n : Int} {a j : Int} (h : ¬ (a = 430 ∧ 15 ≤ j ∧ j < 15 + 7 * n ∧ (j - 15) % 7 = 0)) : dpA M n a j = M a j := by
  unfold dpA
  rw [if_neg (fun q => h q.1)]
/-- all that are there deepen -/
theorem rl_dp {C A : Me} (h : rlR C A) {n : Int} (hn : A 430 14 = n) : rlR (phD C n) (dpA A n) := by
  have w14 := wa_14 h.hy.1
  refine h.now (fun a j _ q => phD_o (by omega)) (fun j => phD_o (by omega)) (fun a j _ _ q => dpA_no (by unfold nowA at q; omega)) (wa_dp h.hy.1 (by omega)) ?_
  obtain ⟨⟨b1, b2, b3, b4, b5⟩, b6, b7, b8⟩ := h.1.2.1.o
  have w0 := wa_0 h.hy.1
  refine rlN.mk (by rw [phD_o (by omega), dpA_no (by omega)]; exact b1) (by rw [phD_o (by omega), dpA_no (by omega)]; exact b2) (by rw [phD_o (by omega), dpA_no (by omega)]; exact b3) (by rw [phD_o (by omega), dpA_no (by omega)]; exact b4) (by rw [phD_o (by omega), dpA_no (by omega)]; exact b5) (fun e g0 g1 => ?_) (fun e g0 g1 => ?_) (fun i g0 g1 => ?_)
  · rw [dpA_no (by omega)] at g1
    rw [phD_o (by omega), dpA_no (by omega)]; exact b6 e g0 g1
  · rw [dpA_no (by omega)] at g1
    have b := b7 e g0 g1
    have k := (h.cr g0 g1).2.2.1
    refine ⟨by rw [phD_o (by omega), dpA_no (by omega)]; exact b.1, ?_⟩
    unfold phD dpA
    rw [b.1, b.2, k]
    by_cases q : A 430 (15 + 7 * e + 1) = 0 ∧ A 430 (15 + 7 * e) < A 430 (15 + 7 * e + 4)
    · rw [if_pos ⟨by omega, q⟩, if_pos ⟨by omega, q⟩]
    · rw [if_neg (fun w => q w.2), if_neg (fun w => q w.2)]
  · rw [phD_o (by omega), dpA_no (by omega)]; exact b8 i g0 g1
theorem rl_ph {C A : Me} (h : rlR C A) {n : Int} (hn : A 430 14 = n) (h9 : A 430 10 < 9999) : rlR (phC C n) (psA A n) := by
  have w := wa_10 h.hy.1
  have s := h.sc
  unfold phC psA
  rw [s.2.1.1]
  split
  · exact rl_hr (rl_dp h hn) (by omega)
  · exact rl_hr h (by omega)
/-- what hangs on it goes with it -/
theorem rl_gs {C A : Me} (h : rlR C A) {n : Nat} (hn : A 430 14 = (n : Int)) {c g : Int} (hg : C 214 c = g) : ∀ i : Nat, i ≤ n → rlR (goS C c i) (gnS A g i) ∧ gnS A g i 430 14 = (n : Int) := by
  have w14 := wa_14 h.hy.1
  intro i
  induction i with
  | zero => intro _; exact ⟨h, hn⟩
  | succ i ih =>
    intro hi
    obtain ⟨h1, h3⟩ := ih (by omega)
    have k := (h1.cr (c := i) (by omega) (by omega)).2.2.2.2.2.2.1
    by_cases q : and32 (shr32 g i) 1 = 1 ∧ gnS A g i 430 (15 + 7 * (i : Int) + 1) = 0
    · rw [gnS_t q, goS_t (by rw [hg, k]; exact q)]
      exact ⟨rl_go h1 (by omega), (bcA_o (wa_12 h1.hy.1) (by omega) (by omega)).trans h3⟩
    · rw [gnS_f q, goS_f (by rw [hg, k]; exact q)]
      exact ⟨h1, h3⟩
/-- what a law looks at -/
def lawF (C A : Me) : Prop := rlXs C A ∧ (C 49 0 = A 430 13 ∧ C 49 1 = A 430 1 ∧ C 50 0 = A 430 10 ∧ C 50 3 = A 430 14) ∧ (∀ p : Int, 0 ≤ p → p < A 430 0 → C 207 p = A 430 (99 + 3 * p + 1) ∧ C 51 p = A 430 (99 + 3 * p + 0)) ∧ (∀ c : Int, 0 ≤ c → c < A 430 14 → (C 209 c = A 430 (15 + 7 * c + 2) ∧ A 430 (15 + 7 * c + 2) < A 430 0) ∧ C 210 c = A 430 (15 + 7 * c + 3) ∧ C 212 c = A 430 (15 + 7 * c + 5) ∧ C 214 c = hangT (tiA A) (A 430 14).toNat c ∧ C 53 c = A 430 (15 + 7 * c + 0)) ∧ HY A
theorem rlR.lf {C A : Me} (h : rlR C A) : lawF C A := ⟨h.2.2.1, ⟨h.sc.1.1, h.sc.1.2.1, h.sc.2.1.1, h.sc.2.1.2.2.2.1⟩, fun p g0 g1 => ⟨(h.pe g0 g1).1, (h.pe g0 g1).2.2⟩, fun c g0 g1 => ⟨(h.cr g0 g1).1, (h.cr g0 g1).2.1, (h.cr g0 g1).2.2.2.1, (h.cr g0 g1).2.2.2.2.2.1, (h.cr g0 g1).2.2.2.2.2.2.2⟩, h.hy⟩
theorem lawF.dr {C A : Me} (h : lawF C A) : lawF (drC C) A := by
  have w1 := wa_1 h.2.2.2.2.1
  refine ⟨fun t g0 g1 => (h.1 t g0 g1).of (fun a j q0 q1 => up_ne (by omega)), by rw [drC, up_ne (by omega), up_ne (by omega), up_ne (by omega), up_ne (by omega)]; exact h.2.1, fun p g0 g1 => by rw [drC, up_ne (by omega), up_ne (by omega)]; exact h.2.2.1 p g0 g1, fun c g0 g1 => by rw [drC, up_ne (by omega), up_ne (by omega), up_ne (by omega), up_ne (by omega), up_ne (by omega)]; exact h.2.2.2.1 c g0 g1, h.2.2.2.2⟩
theorem sgm_b {k : Int} (h0 : 25 ≤ k) (h1 : k ≤ 33) : 0 ≤ sgm k ∧ sgm k < 9 := by unfold sgm; (repeat' split) <;> omega
/-- the names say the same -/
theorem lf_nm {C A : Me} (h : lawF C A) {n : Nat} (hn : A 430 14 = (n : Int)) {c : Int} (hc : 0 ≤ c ∧ c < A 430 14) {k : Int} (h0 : 25 ≤ k) (h1 : k ≤ 33) : caN C c k = nmV A n c (sgm k) := by
  obtain ⟨-, ⟨s1, s2, s3, s4⟩, hp, hcr, hY⟩ := h
  obtain ⟨⟨k1, k2⟩, k3, k5, k6, k7⟩ := hcr c hc.1 hc.2
  have w14 := wa_14 hY.1
  have b2 := (wc_2 hY.1 (c := c) (by omega)).1
  have p := hp _ b2 k2
  rw [show (A 430 14).toNat = n by omega] at k6
  unfold caN nmV sgm
  rcases (show k = 25 ∨ k = 26 ∨ k = 27 ∨ k = 28 ∨ k = 29 ∨ k = 30 ∨ k = 31 ∨ k = 32 ∨ k = 33 by omega) with q | q | q | q | q | q | q | q | q <;> subst q <;> dsimp
  · exact s1
  · exact s3
  · exact k1
  · rw [k1]; exact p.1
  · exact k3
  · exact k7
  · exact k5
  · rw [k1]; exact p.2
  · rw [k6]
theorem lf_dp {C A : Me} (h : lawF C A) {n : Nat} {c : Int} : caD C = dpF (nmA A n c) := by
  funext v
  unfold caD dpF
  rw [h.2.1.2.2.2, show nmA A n c 430 = A 430 from nmA_row (by decide)]
  by_cases q : 0 ≤ v ∧ v < A 430 14
  · rw [if_pos q, if_pos q]; exact (h.2.2.2.1 v q.1 q.2).2.2.2.2
  · rw [if_neg q, if_neg q]
theorem lw_row {A : Me} {n : Nat} {c t u : Int} {cn : Nat} (h : 0 ≤ t) : lwX (nmA A n c) t u cn = lwI (A 432) t u cn := by
  unfold lwX
  rw [if_neg (by omega), nmA_row (by decide)]
/-- a law that says something says the same -/
theorem lf_val {C A : Me} (h : lawF C A) {n : Nat} (hn : A 430 14 = (n : Int)) {c : Int} (hc : 0 ≤ c ∧ c < A 430 14) {t l : Int} (ht : 0 ≤ t ∧ t < A 430 1) (hl : 0 ≤ l ∧ l < 3) : (blN C l t ∧ lwX (nmA A n c) t l (cnO A t) < 0) ∨ (¬ blN C l t ∧ ¬ lwX (nmA A n c) t l (cnO A t) < 0 ∧ askV C (15 + 8 * t) l c = (smR (nmA A n c) t (lwX (nmA A n c) t l (cnO A t))).1 0) := by
  have w14 := wa_14 h.2.2.2.2.1
  have hW := h.2.2.2.2.1
  have s2 := h.2.1.2.1
  rw [lw_row ht.1]
  rcases (h.1 t ht.1 ht.2).2.2 l hl.1 hl.2 with q | q
  · exact Or.inl ⟨Or.inr (Or.inr q.1), q.2⟩
  · refine Or.inr ⟨fun w => ?_, Int.not_lt.mpr q.2.1, ?_⟩
    · rcases w with w | w | w
      · omega
      · omega
      · omega
    · have v := q.2.2 (dpF (nmA A n c)) (fun v => nmA A n c 435 v) (caN C c) (fun c2 => nmA A n c 436 c2) (fun c2 => nmA A n c 437 c2) (fun j => C 48 j) (fun v => dpF_b (wa_o hW (fun j _ _ => row1_o (by omega)))) (fun k h0 h1 => by rw [show nmA A n c 435 k = nmV A n c k from rd_rX (by omega) rfl]; exact nmV_b hW (by omega) (by omega)) (fun k h0 h1 => by
        have b := sgm_b h0 h1
        rw [show nmA A n c 435 (sgm k) = nmV A n c (sgm k) from rd_rX (by omega) rfl]
        exact lf_nm h hn hc h0 h1)
      rw [← lf_dp h (n := n) (c := c)] at v
      unfold cVal at v
      unfold askV askS
      rw [if_pos hl]
      refine v.trans ?_
      unfold aVal smR
      rw [lf_dp h (n := n) (c := c), nmA_row (a := 432) (by decide)]
theorem hld_m {g o : Int} (ho : 0 ≤ o) : hld g 0 o = max 0 (min o g) := by unfold hld; (repeat' split) <;> omega
theorem lf_bl {C A : Me} (h : lawF C A) {n : Nat} (hn : A 430 14 = (n : Int)) {c : Int} (hc : 0 ≤ c ∧ c < A 430 14) {t l g o : Int} (ht : t < A 430 1) (hl : 0 ≤ l ∧ l < 3) (ho : o = mostC l) (ho0 : 0 ≤ o) (hg : wlC C l c = hld g 0 o) : blC C l c t = lwV A n c t l g o := by
  unfold blC lwV syV
  by_cases t0 : t < 0
  · have e : lwX (nmA A n c) t l (cnO A t) = -1 := if_pos t0
    rw [if_pos (Or.inl t0), e, if_pos (by decide)]; exact hg
  · rcases lf_val h hn hc (t := t) (l := l) ⟨by omega, ht⟩ hl with q | q
    · rw [if_pos q.1, if_pos q.2]; exact hg
    · rw [if_neg q.1, if_neg q.2.1, q.2.2, hld_m ho0, ho]
theorem lf_P {C A : Me} (h : lawF C A) {n : Nat} (hn : A 430 14 = (n : Int)) {c : Int} (hc : 0 ≤ c ∧ c < A 430 14) : blC C 0 c (A 430 2) = lwP A n c := by
  have w13 := wa_13 h.2.2.2.2.1
  refine lf_bl h hn hc h.2.2.2.2.2.1 (by decide) rfl (by decide) ?_
  have e := lf_nm h hn hc (k := 28) (by decide) (by decide)
  rw [show sgm 28 = 3 from rfl, show caN C c 28 = C 207 (C 209 c) from rfl] at e
  unfold wlC
  rw [if_pos rfl, e, h.2.1.1]
  unfold hld
  (repeat' split) <;> omega
theorem lf_S {C A : Me} (h : lawF C A) {n : Nat} (hn : A 430 14 = (n : Int)) {c : Int} (hc : 0 ≤ c ∧ c < A 430 14) : blC C 1 c (A 430 2) = lwS A n c := by
  have w13 := wa_13 h.2.2.2.2.1
  refine lf_bl h hn hc h.2.2.2.2.2.1 (by decide) rfl (by decide) ?_
  unfold wlC
  rw [if_neg (by decide), if_pos rfl, h.2.1.1]
  unfold hld
  (repeat' split) <;> omega
theorem lf_C {C A : Me} (h : lawF C A) {n : Nat} (hn : A 430 14 = (n : Int)) {c t : Int} (hc : 0 ≤ c ∧ c < A 430 14) (ht : t < A 430 1) : blC C 2 c t = lwC A n c t := by
  have w14 := wa_14 h.2.2.2.2.1
  have w0 := wc_0 h.2.2.2.2.1 (c := c) (by omega)
  refine lf_bl h hn hc ht (by decide) rfl (by decide) ?_
  have e := (h.2.2.2.1 c hc.1 hc.2).2.2.2.2
  unfold wlC
  rw [if_neg (by decide), if_neg (by decide), e]
  rw [show nmV A n c 5 = A 430 (15 + 7 * c + 0) from rfl]
  unfold hld
  (repeat' split) <;> omega
/-- the asking leaves the relation -/
theorem rl_bl {C A : Me} (h : rlR C A) {l c t : Int} : rlR (blM C l c t) A := h.c (fun a j q => blM_o (by unfold scrC at q; omega)) (fun j g0 g1 => by rw [blM_o (by omega)]; exact h.2.2.2.2.1.2 j g0 g1)
theorem rl_lx {C A : Me} (h : rlR C A) {n : Nat} {c t u : Int} : rlR C (lxM A n c t u) := h.a (fun a j q0 q1 => lxM_o (by omega))
/-- a press -/
theorem rl_p1 {C A : Me} (h : rlR C A) {n : Nat} (hn : A 430 14 = (n : Int)) {c : Int} (hc : 0 ≤ c ∧ c < A 430 14) : rlR (po1 C c) (pn1 A n c) := by
  have w14 := wa_14 h.hy.1
  have w0 := wc_0 h.hy.1 (c := c) (by omega)
  have k := h.cr hc.1 hc.2
  have b := h.ci
  have l1 := lf_P h.lf hn hc
  have e : max 0 (C 53 c - blC C 0 c (C 49 2)) = hld (A 430 (15 + 7 * c + 0) - lwP A n c) 0 9 := by
    have l2 := lwV_b (M := A) (n := n) (c := c) (t := A 430 2) (u := 0) (g := if nmV A n c 3 = 2 then 1 else A 430 13 / 2) (o := 9) (by decide)
    rw [h.sc.1.2.2, l1, k.2.2.2.2.2.2.2, hld_m (by decide)]
    have : 0 ≤ lwP A n c := l2.1
    omega
  unfold po1 pn1
  rw [e]
  exact rl_d (rl_lx (rl_bl h)) (by omega) (hld_b (by decide))
theorem rl_p2 {C A : Me} (h : rlR C A) {n : Nat} {c : Int} : rlR (po2 C c) (pn2 A n c) := by
  unfold po2
  refine (rl_bl (rl_dr h)).a (fun a j q0 q1 => ?_)
  unfold pn2 drA
  by_cases q : a = 430 ∧ j = 11
  · rw [up_eq q, up_eq q]
  · rw [up_ne q, up_ne q]; exact lxM_o (by omega)
theorem rl_pC {C A : Me} (h : rlR C A) {n : Nat} (hn : A 430 14 = (n : Int)) {c : Int} (hc : 0 ≤ c ∧ c < A 430 14) : poC C c = pnC A n c := by
  unfold poC pnC
  rw [h.sc.2.1.2.1, h.sc.1.2.2, lf_S h.lf.dr hn hc]
theorem rl_p3 {C A : Me} (h : rlR C A) {n : Nat} (hn : A 430 14 = (n : Int)) {c s : Int} (hc : 0 ≤ c ∧ c < A 430 14) : rlR (po3 C n c s) (pn3 A n c s) := by
  have w14 := wa_14 h.hy.1
  have k := h.cr hc.1 hc.2
  unfold po3 pn3
  rw [k.2.2.2.2.2.2.2]
  by_cases q : s ≠ 0
  · rw [if_pos q, if_pos q]; exact rl_sc h (by omega)
  · rw [if_neg q, if_neg q]
    by_cases q2 : A 430 (15 + 7 * c + 0) = 0
    · rw [if_pos q2, if_pos q2]
      exact (rl_gs h hn (k.2.2.2.2.2.1.trans (by rw [show (A 430 14).toNat = n by omega])) n (Nat.le_refl n)).1
    · rw [if_neg q2, if_neg q2]; exact h
theorem rl_p4 {C A : Me} (h : rlR C A) {n : Nat} (hn : A 430 14 = (n : Int)) {c : Int} (hc : 0 ≤ c ∧ c < A 430 14) : rlR (po4 C c) (pn4 A n c) := by
  have w14 := wa_14 h.hy.1
  have w0 := wa_0 h.hy.1
  have k := h.cr hc.1 hc.2
  have b2 := wc_2 h.hy.1 (c := c) (by omega)
  have p := h.pe b2.1 k.1.2
  have w := wp_0 h.hy.1 (c := A 430 (15 + 7 * c + 2)) (by omega)
  have e : max 0 (C 51 (C 209 c) - blC C 2 c (C 49 2)) = hld (A 430 (pnX A c) - lwC A n c (A 430 2)) 0 9999 := by
    have l2 : 0 ≤ lwC A n c (A 430 2) := (lwV_b (M := A) (n := n) (c := c) (t := A 430 2) (u := 2) (g := nmV A n c 5) (o := 9999) (by decide)).1
    rw [h.sc.1.2.2, lf_C h.lf hn hc h.hy.2.1, k.1.1, p.2.2, hld_m (by decide), show pnX A c = 99 + 3 * A 430 (15 + 7 * c + 2) + 0 by unfold pnX; omega]
    omega
  unfold po4 pn4
  rw [e, k.1.1]
  exact rl_co (rl_lx (rl_bl h)) (by omega) (hld_b (by decide))
theorem pn_14 {A : Me} (h : HY A) {n : Nat} (hn : A 430 14 = (n : Int)) {c : Int} (hc : 0 ≤ c ∧ c < 12) : pn1 A n c 430 14 = (n : Int) ∧ ∀ B : Me, pn2 B n c 430 14 = B 430 14 := ⟨(up_ne (by omega)).trans ((lxM_o (by omega)).trans hn), fun B => (up_ne (by omega)).trans (lxM_o (by omega))⟩
theorem rl_po {C A : Me} (h : rlR C A) {n : Nat} (hn : A 430 14 = (n : Int)) {c : Int} (hc : 0 ≤ c ∧ c < A 430 14) : rlR (poM C n c) (pnM A n c) := by
  have w14 := wa_14 h.hy.1
  have hc2 : 0 ≤ c ∧ c < 12 := by omega
  have h1 := rl_p1 h hn hc
  have e1 := (pn_14 h.hy hn hc2).1
  have h2 := rl_p2 h1 (n := n) (c := c)
  have e2 : pn2 (pn1 A n c) n c 430 14 = (n : Int) := ((pn_14 h.hy hn hc2).2 _).trans e1
  have hs := rl_pC h1 e1 (c := c) (by omega)
  have h3 := rl_p3 h2 e2 (c := c) (s := pnC (pn1 A n c) n c) (by omega)
  have e3 : pn3 (pn2 (pn1 A n c) n c) n c (pnC (pn1 A n c) n c) 430 14 = (n : Int) := ((hy_3 h2.hy (by omega) (n := n) hc2).2 _ _ (by omega)).trans e2
  have h4 := rl_p4 h3 e3 (c := c) (by omega)
  unfold poM pnM
  rw [hs]
  exact h4
/-- a part of a season -/
theorem rl_sp {C A : Me} (h : rlR C A) {n : Nat} (hn : A 430 14 = (n : Int)) {u : Int} (hu : 0 ≤ u) : rlR (spX C n u) (hpM A n u) := by
  have w14 := wa_14 h.hy.1
  have s := h.sc
  unfold spX hpM
  rw [s.2.1.1]
  by_cases q5 : u % 6 = 5
  · rw [if_pos q5, if_pos q5]
    by_cases q9 : A 430 10 < 9999
    · rw [if_pos q9, if_pos q9]; exact rl_ph h hn q9
    · rw [if_neg q9, if_neg q9]; exact h
  · rw [if_neg q5, if_neg q5]
    by_cases q0 : n = 0
    · rw [if_pos q0, if_pos q0]; exact h
    · rw [if_neg q0, if_neg q0]
      have hc : 0 ≤ u % (n : Int) ∧ u % (n : Int) < A 430 14 := ⟨Int.emod_nonneg _ (by omega), by have := Int.emod_lt_of_pos u (show (0 : Int) < n by omega); omega⟩
      have k := h.cr hc.1 hc.2
      have w4 := wc_4 h.hy.1 (c := u % (n : Int)) (by omega)
      by_cases q4 : u % 6 = 4
      · rw [if_pos q4, if_pos q4]; exact (rl_dn h hn n (Nat.le_refl n)).1
      · rw [if_neg q4, if_neg q4]
        by_cases q3 : u % 6 = 3
        · rw [if_pos q3, if_pos q3]
          have m := rl_cm h hn hc
          by_cases qm : cbk A n (u % n)
          · rw [if_pos qm, if_pos (m.mpr qm), k.2.2.1]; exact rl_cb h (by omega) w4
          · rw [if_neg qm, if_neg (fun w => qm (m.mp w))]; exact h
        · rw [if_neg q3, if_neg q3, k.2.2.2.2.2.2.1]
          by_cases q1 : A 430 (15 + 7 * (u % (n : Int)) + 1) = 0
          · rw [if_pos q1, if_pos q1]; exact rl_po h hn hc
          · rw [if_neg q1, if_neg q1]; exact h
theorem rl_se {C A : Me} (h : rlR C A) {n : Nat} (hn : A 430 14 = (n : Int)) : ∀ k : Nat, rlR (seS C n k) (ssS A n k) ∧ ssS A n k 430 14 = (n : Int) := by
  have w14 := wa_14 h.hy.1
  intro k
  induction k with
  | zero => exact ⟨h, hn⟩
  | succ k ih =>
    have e : drA (ssS A n k) 430 14 = (n : Int) := (up_ne (by omega)).trans ih.2
    have s := ih.1.sc.2.1.2.1
    have w := wa_11 ih.1.hy.1
    have h2 := rl_sp (rl_dr ih.1) e (u := ssS A n k 430 11) w.1
    refine ⟨?_, ?_⟩
    · show rlR (spX (drC (seS C n k)) n (seS C n k 50 1)) _
      rw [s]; exact h2
    · exact ((ssS_o h.hy (by omega) (n := n) (k + 1)).2 _ _ (by omega) (by omega)).trans hn
