theorem cl_pe {C A : Me} (h : rlR C A) (d : DI A 430) {t c : Int} : rlR (tpM C t c) (oPeM A t c) ∧ tpV C t c = oPeV A t c ∧ DI (oPeM A t c) 430 := by
  have s := h.sc
  have w0 := wa_0 h.hy.1
  by_cases q : tpO C t c
  · have q2 : oPeC A t c := by unfold tpO at q; unfold oPeC; omega
    rw [show tpM C t c = up (up (up (up C 207 (C 50 2) t) 208 (C 50 2) c) 51 (C 50 2) c) 50 2 (C 50 2 + 1) from if_pos q, show oPeM A t c = _ from if_pos q2, show tpV C t c = C 50 2 from if_pos q, show oPeV A t c = A 430 0 from if_pos q2, s.2.1.2.2.1]
    refine ⟨rl_pe h rfl (by unfold oPeC at q2; omega) q2.1 q2.2.1, rfl, d.of (wa_3 h.hy.1).2 (wa_14 h.hy.1).2 (fun j w => (up_ne (by omega)).trans ((up_ne (by omega)).trans ((up_ne (by omega)).trans (up_ne (by omega)))))⟩
  · have q2 : ¬ oPeC A t c := by unfold tpO at q; unfold oPeC; omega
    rw [show tpM C t c = C from if_neg q, show oPeM A t c = A from if_neg q2, show tpV C t c = -1 from if_neg q, show oPeV A t c = -1 from if_neg q2]
    exact ⟨h, rfl, d⟩
theorem cl_cr {C A : Me} (h : rlR C A) (d0 : DI A 430) {p t d g : Int} : rlR (tcN C p t d g) (oCrM A p t d g) ∧ tcV C p t d g = oCrV A p t d g ∧ DI (oCrM A p t d g) 430 := by
  have s := h.sc
  have w0 := wa_0 h.hy.1
  have w14 := wa_14 h.hy.1
  have w3 := wa_3 h.hy.1
  by_cases q : tcO C p t d g
  · have q2 : oCrC A p t d g := by unfold tcO at q; unfold oCrC; omega
    rw [show tcN C p t d g = up (up (up (up (up (up (up (up (up C 209 (C 50 3) p) 210 (C 50 3) t) 211 (C 50 3) d) 212 (C 50 3) g) 213 (C 50 3) 0) 214 (C 50 3) (shl32 1 (C 50 3))) 52 (C 50 3) 0) 53 (C 50 3) d) 50 3 (C 50 3 + 1) from if_pos q, show oCrM A p t d g = _ from if_pos q2, show tcV C p t d g = C 50 3 from if_pos q, show oCrV A p t d g = A 430 14 from if_pos q2, s.2.1.2.2.2.1]
    have q14 : A 430 14 < 12 := by unfold oCrC at q2; omega
    refine ⟨rl_cr h rfl q14 ⟨q2.1.1, by omega⟩ q2.2.1 q2.2.2.1 q2.2.2.2.1, rfl, ?_⟩
    generalize hA' : (up (up (up (up (up (up (up (up A 430 (15 + 7 * A 430 14 + 2) p) 430 (15 + 7 * A 430 14 + 3) t) 430 (15 + 7 * A 430 14 + 4) d) 430 (15 + 7 * A 430 14 + 5) g) 430 (15 + 7 * A 430 14 + 6) 0) 430 (15 + 7 * A 430 14 + 0) d) 430 (15 + 7 * A 430 14 + 1) 0) 430 14 (A 430 14 + 1)) = A'
    have e14 : A' 430 14 = A 430 14 + 1 := by rw [← hA']; exact up_eq ⟨rfl, rfl⟩
    have eo : ∀ j : Int, j = 3 ∨ (15 ≤ j ∧ j < 15 + 7 * A 430 14) ∨ (192 ≤ j ∧ j < 2112) → A' 430 j = A 430 j := fun j w => by rw [← hA']; simp (disch := omega) only [up_ne, up_eq]
    have en : A' 430 (15 + 7 * A 430 14 + 4) = d ∧ A' 430 (15 + 7 * A 430 14 + 0) = d := by
      rw [← hA']
      refine ⟨?_, ?_⟩ <;> simp (disch := omega) only [up_ne, up_eq]
    have st := h.1.2.2.1.2.2
    unfold DI
    rw [e14, eo 3 (by omega)]
    intro c g0 g1
    by_cases z : c = A 430 14
    · subst z
      rw [en.1, en.2]
      refine ⟨⟨q2.2.2.1.1, Int.le_refl _⟩, fun u u0 u1 => ?_⟩
      rw [eo _ (by omega)]
      intro w
      have := (st u u0 u1).2.1
      omega
    · rw [eo (15 + 7 * c + 4) (by omega), eo (15 + 7 * c + 0) (by omega)]
      refine ⟨(d0 c g0 (by omega)).1, fun u u0 u1 => ?_⟩
      rw [eo _ (by omega), eo _ (by omega)]
      exact (d0 c g0 (by omega)).2 u u0 u1
  · have q2 : ¬ oCrC A p t d g := by unfold tcO at q; unfold oCrC; omega
    rw [show tcN C p t d g = C from if_neg q, show oCrM A p t d g = A from if_neg q2, show tcV C p t d g = -1 from if_neg q, show oCrV A p t d g = -1 from if_neg q2]
    exact ⟨h, rfl, d0⟩
theorem cl_ti {C A : Me} (h : rlR C A) (d0 : DI A 430) {n : Nat} (hn : A 430 14 = (n : Int)) {a b : Int} : rlR (ttM C n a b) (oTiM A a b) ∧ ttV C a b = oTiV A a b ∧ DI (oTiM A a b) 430 := by
  have s := h.sc
  have w14 := wa_14 h.hy.1
  by_cases q : ttP C a b
  · have ka := (h.cr (c := a) q.1.1 (by omega)).2.2.2.2.1
    have q2 : oTiC A a b := ⟨by omega, by omega, q.2.2.1, by rw [← ka]; exact q.2.2.2⟩
    rw [show ttM C n a b = tiS (up C 213 a (or32 (C 213 a) (shl32 1 b))) a b n from if_pos q, show oTiM A a b = _ from if_pos q2, show ttV C a b = 1 from if_pos q, show oTiV A a b = 1 from if_pos q2]
    exact ⟨rl_ti h hn ⟨q.1.1, by omega⟩ ⟨q.2.1.1, by omega⟩, rfl, d0.of (wa_3 h.hy.1).2 (wa_14 h.hy.1).2 (fun j w => up_ne (by omega))⟩
  · have q2 : ¬ oTiC A a b := fun w => q ⟨⟨w.1.1, by omega⟩, ⟨w.2.1.1, by omega⟩, w.2.2.1, by rw [(h.cr (c := a) w.1.1 (by omega)).2.2.2.2.1]; exact w.2.2.2⟩
    rw [show ttM C n a b = C from if_neg q, show oTiM A a b = A from if_neg q2, show ttV C a b = 0 from if_neg q, show oTiV A a b = 0 from if_neg q2]
    exact ⟨h, rfl, d0⟩
theorem cl_he {C A : Me} (h : rlR C A) (d0 : DI A 430) {g : Int} : rlR (thM C g) (oHeM A g) ∧ thV g = oHeV A g ∧ DI (oHeM A g) 430 := by
  by_cases q : 0 ≤ g ∧ g ≤ 9
  · rw [show thM C g = up C 49 0 g from if_pos q, show oHeM A g = up A 430 13 g from if_pos q, show thV g = 1 from if_pos q, show oHeV A g = 1 from if_pos q]
    exact ⟨rl_heat h q, rfl, d0.of (wa_3 h.hy.1).2 (wa_14 h.hy.1).2 (fun j w => up_ne (by omega))⟩
  · rw [show thM C g = C from if_neg q, show oHeM A g = A from if_neg q, show thV g = 0 from if_neg q, show oHeV A g = 0 from if_neg q]
    exact ⟨h, rfl, d0⟩
theorem kp_14 {A : Me} (h : HY A) {n : Nat} (hn : A 430 14 = (n : Int)) : kpA A 430 14 = (n : Int) := (kpA_o (wa_3 h.1) (by omega)).trans hn
theorem cl_ps {C A : Me} (h : rlR C A) (d0 : DI A 430) {n : Nat} (hn : A 430 14 = (n : Int)) {c : Int} : rlR (psC C n c) (prsM A n c) ∧ (psV C c = 0 ↔ prsV A n c < 0) ∧ DI (prsM A n c) 430 := by
  have s := h.sc.2.1.2.2.2.1
  have n12 : n ≤ 12 := by have := (wa_14 h.hy.1).2; omega
  by_cases q : (0 ≤ c ∧ c < C 50 3) ∧ C 52 c = 0
  · have k := h.cr (c := c) q.1.1 (by omega)
    have q2 : (0 ≤ c ∧ c < A 430 14) ∧ A 430 (15 + 7 * c + 1) = 0 := ⟨by omega, k.2.2.2.2.2.2.1.symm.trans q.2⟩
    have k14 := kp_14 h.hy hn
    have hp := (pnM_o (hy_kp h.hy) n12 (c := c) (by omega)).1
    rw [show psC C n c = poM (keC C) n c from if_pos q, show prsM A n c = pnM (kpA A) n c from if_pos q2, show psV C c = 1 from if_pos q, show prsV A n c = pnM (kpA A) n c 430 (15 + 7 * c + 0) from if_pos q2]
    refine ⟨rl_po (rl_ke h) k14 (by omega), ?_, di_pn (di_kp d0 h.hy.1) (hy_kp h.hy) k14 (by omega)⟩
    have := wc_0 hp.1 (c := c) (by omega)
    omega
  · have q2 : ¬ ((0 ≤ c ∧ c < A 430 14) ∧ A 430 (15 + 7 * c + 1) = 0) := fun w => q ⟨by omega, (h.cr (c := c) w.1.1 (by omega)).2.2.2.2.2.2.1.trans w.2⟩
    rw [show psC C n c = C from if_neg q, show prsM A n c = A from if_neg q2, show psV C c = 0 from if_neg q, show prsV A n c = -1 from if_neg q2]
    exact ⟨h, ⟨fun _ => by decide, fun _ => rfl⟩, d0⟩
theorem cl_pa {C A : Me} (h : rlR C A) (d0 : DI A 430) {n : Nat} (hn : A 430 14 = (n : Int)) {c : Int} : rlR (ptC C n c) (oPaM A n c) ∧ ptV C n c = oPaV A n c ∧ DI (oPaM A n c) 430 := by
  have s := h.sc.2.1.2.2.2.1
  have w14 := wa_14 h.hy.1
  by_cases q : mcP C n c
  · have cl : 0 ≤ c ∧ c < A 430 14 := by have := q.1; omega
    have q2 : oPaC A n c := ⟨by omega, (rl_cm h hn cl).mp q⟩
    have k0 := (h.cr (c := c) cl.1 cl.2).2.2.1
    rw [show ptC C n c = cbC (keC C) c (C 211 c) from if_pos q, show oPaM A n c = bcA (kpA A) c 0 (A 430 (15 + 7 * c + 4)) from if_pos q2, show ptV C n c = 1 from if_pos q, show oPaV A n c = 1 from if_pos q2, k0]
    exact ⟨rl_cb (rl_ke h) (by omega) (wc_4 h.hy.1 (by omega)), rfl, di_bc (di_kp d0 h.hy.1) (wa_kp h.hy.1) (by omega) (fun _ => by rw [(kpA_o (wa_3 h.hy.1) (by omega))]; exact Int.le_refl _)⟩
  · have q2 : ¬ oPaC A n c := fun w => q ((rl_cm h hn (by have := w.1; omega)).mpr w.2)
    rw [show ptC C n c = C from if_neg q, show oPaM A n c = A from if_neg q2, show ptV C n c = 0 from if_neg q, show oPaV A n c = 0 from if_neg q2]
    exact ⟨h, rfl, d0⟩
theorem cl_da {C A : Me} (h : rlR C A) (d0 : DI A 430) {n : Nat} (hn : A 430 14 = (n : Int)) {k : Int} (hk : 1 ≤ k ∧ k ≤ 9) : rlR (dnS (keC C) n k n).1 (oDaM A n k) ∧ (dnS (keC C) n k n).2 = oDaV A n k ∧ DI (oDaM A n k) 430 := by
  have w := rl_dn (rl_ke h) (kp_14 h.hy hn) (k := k) n (Nat.le_refl n)
  rw [show oDaM A n k = (dmS (kpA A) n k n).1 from if_pos hk, show oDaV A n k = (dmS (kpA A) n k n).2 from if_pos hk]
  exact ⟨w.1, w.2.1, di_dm (di_kp d0 h.hy.1) (wa_kp h.hy.1) (kp_14 h.hy hn) n (Nat.le_refl n)⟩
theorem cl_ho {C A : Me} (h : rlR C A) (d0 : DI A 430) {n : Nat} (hn : A 430 14 = (n : Int)) {k : Int} (hk : 0 ≤ k) : rlR (hsM C n k) (oApM A n k.toNat) ∧ (hsN C k = k ↔ oApV A n k.toNat ≠ 0) ∧ DI (oApM A n k.toNat) 430 := by
  have s := h.sc.2.1.1
  have w10 := wa_10 h.hy.1
  have n12 : n ≤ 12 := by have := (wa_14 h.hy.1).2; omega
  by_cases q : oApC A n k.toNat
  · have kn : hsN C k = k := by unfold hsN; unfold oApC at q; omega
    have em : hsM C n k = hsS C n k.toNat := by unfold hsM; rw [kn]
    rw [em, kn, show oApM A n k.toNat = apS A n k.toNat from if_pos q, show oApV A n k.toNat = 1 from if_pos q]
    exact ⟨(rl_hs h hn k.toNat q).1, ⟨fun _ => by decide, fun _ => rfl⟩, di_ap d0 h.hy.1 (by omega) k.toNat q⟩
  · have kn : hsN C k = 9999 - A 430 10 := by unfold hsN; unfold oApC at q; omega
    have em : hsM C n k = hsS C n (9999 - A 430 10).toNat := by unfold hsM; rw [kn]
    rw [em, kn, show oApM A n k.toNat = apS A n (9999 - A 430 10).toNat from if_neg q, show oApV A n k.toNat = 0 from if_neg q]
    refine ⟨(rl_hs h hn _ (by omega)).1, ⟨fun w => ?_, fun w => absurd rfl w⟩, di_ap d0 h.hy.1 (by omega) _ (by omega)⟩
    unfold oApC at q
    omega
/-- one clause played -/
theorem cl_eq {C A : Me} (h : rlR C A) (d0 : DI A 430) (d1 : DI A 431) {t : Int} (ht : 0 ≤ t ∧ t < A 430 1) {i : Nat} (hi : (i : Int) < A 432 (705 * t)) : rlR (cdM C (15 + 8 * t) i) (plM A (705 * t + 1 + 4 * (i : Int))) ∧ (cdV C (15 + 8 * t) i = 0 ↔ plV A (705 * t + 1 + 4 * (i : Int)) = 0) ∧ DI (plM A (705 * t + 1 + 4 * (i : Int))) 430 ∧ DI (plM A (705 * t + 1 + 4 * (i : Int))) 431 := by
  have x := (h.2.2.1 t ht.1 ht.2).2.1 i (by omega) hi
  have tx := (h.hy.2.2 t ht.1 ht.2).2 i hi
  have hn := h.hy.n.1
  have s := h.sc.2.1.2.2.2.1
  have en : nCC C = nC A := by unfold nCC nC; rw [s]
  have d1' : DI (plM A (705 * t + 1 + 4 * (i : Int))) 431 := d1.row (fun j => plM_t h.hy 431 j (by omega) (by decide))
  have e0 : 15 + 8 * t + 5 + 0 = 15 + 8 * t + 5 := by omega
  have e1 : 15 + 8 * t + 5 + 1 = 15 + 8 * t + 6 := by omega
  have e2 : 15 + 8 * t + 5 + 2 = 15 + 8 * t + 7 := by omega
  obtain ⟨x0, x1, x2, x3, x4⟩ := x
  have key : rlR (cdM C (15 + 8 * t) i) (plM A (705 * t + 1 + 4 * (i : Int))) ∧ (cdV C (15 + 8 * t) i = 0 ↔ plV A (705 * t + 1 + 4 * (i : Int)) = 0) ∧ DI (plM A (705 * t + 1 + 4 * (i : Int))) 430 := by
    unfold cdM cdV plM plV
    rw [x0, e0, e1, e2, en]
    generalize hx : 705 * t + 1 + 4 * (i : Int) = X at x0 x1 x2 x3 x4 tx ⊢
    generalize hk : A 432 X = kd at x0 x1 x2 x3 x4 tx ⊢
    by_cases k3 : kd = 3
    · subst k3
      rw [show kdm 3 = 19 from rfl]
      simp only [reduceIte, Int.reduceEq]
      rw [x1 (by decide), x2 (by decide)]
      obtain ⟨a, b, c⟩ := cl_pe h d0 (t := A 432 (X + 1)) (c := A 432 (X + 2))
      refine ⟨a, ?_, c⟩
      rw [b]
      have w := (wa_0 h.hy.1).1
      unfold oPeV
      by_cases g : oPeC A (A 432 (X + 1)) (A 432 (X + 2))
      · rw [if_pos g, if_neg (by omega), if_neg (by omega)]
      · rw [if_neg g, if_pos rfl, if_pos (by decide)]
    by_cases k4 : kd = 4
    · subst k4
      rw [show kdm 4 = 20 from rfl]
      simp only [reduceIte, Int.reduceEq]
      rw [x1 (by decide), x2 (by decide), x3 rfl]
      obtain ⟨a, b, c⟩ := cl_cr h d0 (p := A 432 (X + 1)) (t := A 432 (X + 2)) (d := A 432 (X + 3)) (g := 1)
      refine ⟨a, ?_, c⟩
      rw [b]
      have w := (wa_14 h.hy.1).1
      unfold oCrV
      by_cases g : oCrC A (A 432 (X + 1)) (A 432 (X + 2)) (A 432 (X + 3)) 1
      · rw [if_pos g, if_neg (by omega), if_neg (by omega)]
      · rw [if_neg g, if_pos rfl, if_pos (by decide)]
    by_cases k5 : kd = 5
    · subst k5
      rw [show kdm 5 = 21 from rfl]
      simp only [reduceIte, Int.reduceEq]
      rw [x1 (by decide), x2 (by decide)]
      obtain ⟨a, b, c⟩ := cl_ti h d0 hn (a := A 432 (X + 1)) (b := A 432 (X + 2))
      exact ⟨a, by rw [b], c⟩
    by_cases k6 : kd = 6
    · subst k6
      rw [show kdm 6 = 25 from rfl]
      simp only [reduceIte, Int.reduceEq]
      rw [x1 (by decide)]
      obtain ⟨a, b, c⟩ := cl_he h d0 (g := A 432 (X + 1))
      exact ⟨a, by rw [b], c⟩
    by_cases k7 : kd = 7
    · subst k7
      rw [show kdm 7 = 22 from rfl]
      simp only [reduceIte, Int.reduceEq]
      rw [x1 (by decide)]
      obtain ⟨a, b, c⟩ := cl_ps h d0 hn (c := A 432 (X + 1))
      refine ⟨a, b.trans ?_, c⟩
      by_cases g : prsV A (nC A) (A 432 (X + 1)) < 0
      · rw [if_pos g]; exact ⟨fun _ => rfl, fun _ => g⟩
      · rw [if_neg g]; exact ⟨fun w => absurd w g, fun w => absurd w (by decide)⟩
    by_cases k8 : kd = 8
    · subst k8
      rw [show kdm 8 = 23 from rfl]
      simp only [reduceIte, Int.reduceEq]
      rw [x1 (by decide)]
      obtain ⟨a, b, c⟩ := cl_pa h d0 hn (c := A 432 (X + 1))
      exact ⟨a, by rw [b], c⟩
    by_cases k9 : kd = 9
    · subst k9
      rw [show kdm 9 = 24 from rfl]
      simp only [reduceIte, Int.reduceEq]
      rw [x1 (by decide)]
      obtain ⟨a, b, c⟩ := cl_da h d0 hn (k := A 432 (X + 1)) (x4 rfl)
      exact ⟨a, by rw [b], c⟩
    by_cases k10 : kd = 10
    · subst k10
      rw [show kdm 10 = 26 from rfl]
      simp only [reduceIte, Int.reduceEq]
      rw [x1 (by decide)]
      obtain ⟨a, b, c⟩ := cl_ho h d0 hn (k := A 432 (X + 1)) (by have := tx.2.2 rfl; omega)
      refine ⟨a, ?_, c⟩
      by_cases g : hsN C (A 432 (X + 1)) = A 432 (X + 1)
      · rw [if_pos g]; exact ⟨fun w => absurd w (by decide), fun w => absurd w (b.mp g)⟩
      · rw [if_neg g]; exact ⟨fun _ => Classical.byContradiction fun w => g (b.mpr w), fun _ => rfl⟩
    have z : ¬ (kdm kd = 19) ∧ ¬ (kdm kd = 20) ∧ ¬ (kdm kd = 21) ∧ ¬ (kdm kd = 22) ∧ ¬ (kdm kd = 23) ∧ ¬ (kdm kd = 24) ∧ ¬ (kdm kd = 25) ∧ ¬ (kdm kd = 26) := by
      have e : kdm kd = kd + 16 := by unfold kdm; rw [if_neg k6, if_neg k7, if_neg k8, if_neg k9, if_neg k10]
      rw [e]; omega
    obtain ⟨z1, z2, z3, z4, z5, z6, z7, z8⟩ := z
    rw [if_neg z1, if_neg z2, if_neg z3, if_neg z4, if_neg z5, if_neg z6, if_neg z7, if_neg z8, if_neg k3, if_neg k4, if_neg k5, if_neg k6, if_neg k7, if_neg k8, if_neg k9, if_neg k10]
    rw [if_neg z1, if_neg z2, if_neg z3, if_neg z4, if_neg z5, if_neg z6, if_neg z7, if_neg z8, if_neg k3, if_neg k4, if_neg k5, if_neg k6, if_neg k7, if_neg k8, if_neg k9, if_neg k10]
    exact ⟨h, Iff.rfl, d0⟩
  exact ⟨key.1, key.2.1, key.2.2, d1'⟩
theorem plM_1 {M : Me} (h : HY M) {x9 : Int} : plM M x9 430 1 = M 430 1 := by
  have h10 := wa_10 h.1
  have h14 := wa_14 h.1
  have h0 := wa_0 h.1
  unfold plM
  (repeat' split)
  · unfold oPeM; split
    · rw [up_ne (by omega), up_ne (by omega), up_ne (by omega), up_ne (by omega)]
    · rfl
  · unfold oCrM; split
    · rw [up_ne (by omega), up_ne (by omega), up_ne (by omega), up_ne (by omega), up_ne (by omega), up_ne (by omega), up_ne (by omega), up_ne (by omega)]
    · rfl
  · unfold oTiM; split
    · rw [up_ne (by omega)]
    · rfl
  · unfold oHeM; split
    · rw [up_ne (by omega)]
    · rfl
  · unfold prsM; split
    · exact ((pnM_o (hy_kp h) h.n.2 (by omega)).2 430 1 (by omega) (by omega)).trans (kpA_o (wa_3 h.1) (by omega))
    · rfl
  · unfold oPaM; split
    · exact (bcA_o (wa_12 (hy_kp h).1) (by omega) (by omega)).trans (kpA_o (wa_3 h.1) (by omega))
    · rfl
  · unfold oDaM; split
    · exact ((dmS_w (hy_kp h).1 h.n.2 _ (Nat.le_refl _)).2.1 430 1 (by omega)).trans (kpA_o (wa_3 h.1) (by omega))
    · rfl
  · unfold oApM; split
    · exact (apS_w h.1 (by have := h.n.2; omega) _ (by assumption)).2.2 430 1 (by omega)
    · exact (apS_w h.1 (by have := h.n.2; omega) _ (by omega)).2.2 430 1 (by omega)
  · rfl
theorem cdM_o {M : Me} (h : CI M) {q i a j : Int} (ha : 429 ≤ a) : cdM M q i a j = M a j := by
  have h0 := h.h
  have n3 := h.n.1
  unfold cdM
  (repeat' split)
  · unfold tpM; split
    · exact (up_ne (by omega)).trans ((up_ne (by omega)).trans ((up_ne (by omega)).trans (up_ne (by omega))))
    · rfl
  · unfold tcN; split
    · exact (up_ne (by omega)).trans ((up_ne (by omega)).trans ((up_ne (by omega)).trans ((up_ne (by omega)).trans ((up_ne (by omega)).trans ((up_ne (by omega)).trans ((up_ne (by omega)).trans ((up_ne (by omega)).trans (up_ne (by omega)))))))))
    · rfl
  · unfold ttM; split
    · exact (tiS_o (by omega) _).trans (up_ne (by omega))
    · rfl
  · unfold psC; split
    · exact (poM_o (by omega)).trans (keC_o (by omega))
    · rfl
  · unfold ptC; split
    · exact (cbC_o (by omega)).trans (keC_o (by omega))
    · rfl
  · exact ((dnS_w h.ke _).2.1 a j (by omega)).trans (keC_o (by omega))
  · unfold thM; split
    · exact up_ne (by omega)
    · rfl
  · unfold hsM
    exact (hsS_w h n3.symm _ (by unfold hsN; omega)).2.2 a j (by omega)
  · rfl
theorem pcC_s {M : Me} {q : Int} {i : Nat} : pcC M q (i + 1) = cdM (pcC M q i) q i := rfl
/-- the reference's states on the way -/
def plS (A : Me) (t : Int) : Nat → Me
  | 0 => A
  | i + 1 => plM (plS A t i) (705 * t + 1 + 4 * (i : Int))
/-- the states on the way say the same -/
theorem pl_st {C A : Me} (h : rlR C A) (d0 : DI A 430) (d1 : DI A 431) {t : Int} (ht : 0 ≤ t ∧ t < A 430 1) : ∀ i : Nat, (i : Int) ≤ A 432 (705 * t) → (rlR (pcC C (15 + 8 * t) i) (plS A t i) ∧ DI (plS A t i) 430 ∧ DI (plS A t i) 431) ∧ (plS A t i 432 = A 432 ∧ plS A t i 430 1 = A 430 1) ∧ ∀ a j : Int, ¬ (435 ≤ a ∧ a ≤ 437) → a ≠ 430 → plS A t i a j = A a j := by
  intro i
  induction i with
  | zero => intro _; exact ⟨⟨h, d0, d1⟩, ⟨rfl, rfl⟩, fun _ _ _ _ => rfl⟩
  | succ i ih =>
    intro hi
    obtain ⟨⟨i1, i2, i3⟩, ⟨i4, i5⟩, i6⟩ := ih (by omega)
    have ht2 : 0 ≤ t ∧ t < plS A t i 430 1 := by rw [i5]; exact ht
    have c := cl_eq i1 i2 i3 ht2 (i := i) (by rw [i4]; omega)
    have o := plM_t i1.hy (x9 := 705 * t + 1 + 4 * (i : Int))
    refine ⟨⟨c.1, c.2.2.1, c.2.2.2⟩, ⟨?_, ?_⟩, fun a j q0 q1 => (o a j q0 q1).trans (i6 a j q0 q1)⟩
    · exact (funext fun j => o 432 j (by omega) (by decide)).trans i4
    · show plM (plS A t i) (705 * t + 1 + 4 * (i : Int)) 430 1 = _
      exact (plM_1 i1.hy).trans i5
theorem pcC_o {C A : Me} (h : rlR C A) (d0 : DI A 430) (d1 : DI A 431) {t : Int} (ht : 0 ≤ t ∧ t < A 430 1) : ∀ i : Nat, (i : Int) ≤ A 432 (705 * t) → ∀ a j : Int, 429 ≤ a → pcC C (15 + 8 * t) i a j = C a j := by
  intro i
  induction i with
  | zero => intro _ _ _ _; rfl
  | succ i ih => intro hi a j ha; exact (cdM_o (pl_st h d0 d1 ht i (by omega)).1.1.ci ha).trans (ih (by omega) a j ha)
/-- where the playing stops -/
theorem pl_py {C A : Me} (h : rlR C A) (d0 : DI A 430) (d1 : DI A 431) {t : Int} (ht : 0 ≤ t ∧ t < A 430 1) {N : Nat} (hN : A 432 (705 * t) = (N : Int)) : ∀ m i : Nat, m + i = N → i ≤ pcN C (15 + 8 * t) m i ∧ pcN C (15 + 8 * t) m i ≤ N ∧ pyI t m i (plS A t i) = ((if pcN C (15 + 8 * t) m i = N then -1 else (pcN C (15 + 8 * t) m i : Int)), plS A t (min N (pcN C (15 + 8 * t) m i + 1))) := by
  intro m
  induction m with
  | zero =>
    intro i hi
    have e : pcN C (15 + 8 * t) 0 i = i := rfl
    rw [e, if_pos (by omega), show min N (i + 1) = i by omega]
    exact ⟨Nat.le_refl _, by omega, rfl⟩
  | succ m ih =>
    intro i hi
    obtain ⟨⟨i1, i2, i3⟩, ⟨i4, i5⟩, -⟩ := pl_st h d0 d1 ht i (by omega)
    have c := (cl_eq i1 i2 i3 (t := t) (by rw [i5]; exact ht) (i := i) (by rw [i4]; omega)).2.1
    by_cases q : cdV (pcC C (15 + 8 * t) i) (15 + 8 * t) i = 0
    · rw [pcN_0 q, pyI_f (c.mp q), if_neg (by omega), show min N (i + 1) = i + 1 by omega]
      exact ⟨Nat.le_refl _, by omega, rfl⟩
    · rw [pcN_1 q, pyI_t (fun w => q (c.mpr w))]
      obtain ⟨j1, j2, j3⟩ := ih (i + 1) (by omega)
      exact ⟨by omega, j2, j3⟩
/-- PLAYED -/
theorem op_played {M : Me} (h : INV M) {t : Int} : OpR kX10_played kX11_played 9 10 [(0, t)] M := by
  have s := h.1.sc.1.2.1
  by_cases q : 0 ≤ t ∧ t < M 430 1
  · obtain ⟨N, hN⟩ := Int.eq_ofNat_of_zero_le ((h.1.hy.2.2 t q.1 q.2).1.1)
    have hN : M 432 (705 * t) = (N : Int) := hN
    have x0 := (h.1.2.2.1 t q.1 q.2).1
    have eN : pkN M (15 + 8 * t) = N := by unfold pkN; rw [x0, hN]; rfl
    have st := pl_st h.1 h.2.1 h.2.2 q
    have pp := pl_py h.1 h.2.1 h.2.2 q hN N 0 rfl
    have hm : min N (pcN M (15 + 8 * t) N 0 + 1) ≤ N := Nat.min_le_left _ _
    have fr := pcC_o h.1 h.2.1 h.2.2 q (min N (pcN M (15 + 8 * t) N 0 + 1)) (by omega)
    have c9 : ∀ x y z : Int, Con kX10_played 9 0 0 [(1, 0), (0, t)] (Sf x y z) M (Ex (some (0, if pcN M (15 + 8 * t) N 0 = N then -1 else (pcN M (15 + 8 * t) N 0 : Int))) (Sf x y z) (pcC M (15 + 8 * t) (min N (pcN M (15 + 8 * t) N 0 + 1)))) := fun x y z => by
      have k9 := f_played (x := x) (y := y) (z := z) h.1.ci (t := t) (fun _ i hi => by
        have w := st i (by omega)
        refine ⟨w.1.1.ci, ?_⟩
        rw [(w.1.1.2.2.1 t q.1 (by rw [w.2.1.2]; exact q.2)).1, w.2.1.1, x0])
      rwa [show fyV M t = _ from if_neg (by omega), show fyM M t = _ from if_neg (by omega), eN] at k9
    have ps : ∀ f : Me, rlR M f → DI f 430 → DI f 431 → f 432 = M 432 → f 430 1 = M 430 1 → rlR (pcC M (15 + 8 * t) (min N (pcN M (15 + 8 * t) N 0 + 1))) (plS f t (min N (pcN M (15 + 8 * t) N 0 + 1))) := fun f h1 e0 e1 e2 e3 => (pl_st h1 e0 e1 (t := t) (by rw [e3]; exact q) (min N (pcN M (15 + 8 * t) N 0 + 1)) (by rw [e2]; omega)).1.1
    have row : ∀ a : Int, 429 ≤ a → (pcC M (15 + 8 * t) (min N (pcN M (15 + 8 * t) N 0 + 1))) a = M a := fun a ha => funext fun j => fr a j ha
    generalize hf : pcC M (15 + 8 * t) (min N (pcN M (15 + 8 * t) N 0 + 1)) = f at fr c9 ps row
    have r0 := row 430 (by decide)
    have r1 := row 431 (by decide)
    have r2 := row 432 (by decide)
    have D0 : DI f 430 := by unfold DI; rw [r0]; exact h.2.1
    have D1 : DI f 431 := by unfold DI; rw [r1]; exact h.2.2
    refine OpR.mk (f := f) (g := plS f t (min N (pcN M (15 + 8 * t) N 0 + 1))) h (fun x y z => ⟨x, y, z, c9 x y z⟩) fr (fun h1 x y z => ?_) (fun h1 a j w => ?_) (fun h1 => ps f h1 D0 D1 r2 (by rw [r0])) (fun h1 _ _ => ?_)
    · have m := m_played (x := x) (y := y) (z := z) h1.hy (t := t)
      have p2 := pl_py h1 D0 D1 (t := t) (by rw [r0]; exact q) (N := N) (by rw [r2]; exact hN) N 0 rfl
      have en : cnO f t = N := by unfold cnO; rw [r2, hN]; rfl
      have e1 : oPyV f t = (pyI t N 0 f).1 := (if_pos (by rw [r0]; omega)).trans (by rw [en])
      have e2 : oPyM f t = (pyI t N 0 f).2 := (if_pos (by rw [r0]; omega)).trans (by rw [en])
      have p3 : pyI t N 0 f = _ := p2.2.2
      rw [e1, e2, p3] at m
      exact m
    · have p3 := pl_st h1 D0 D1 (t := t) (by rw [r0]; exact q) (min N (pcN M (15 + 8 * t) N 0 + 1)) (by rw [r2]; omega)
      exact p3.2.2 a j (by omega) (by omega)
    · have p3 := pl_st h1 D0 D1 (t := t) (by rw [r0]; exact q) (min N (pcN M (15 + 8 * t) N 0 + 1)) (by rw [r2]; omega)
      exact ⟨p3.1.2.1, p3.1.2.2⟩
  · refine OpR.rd (v := some (0, -2)) h (fun x y z => ?_) (fun x y z => ?_)
    · have k9 := f_played (x := x) (y := y) (z := z) h.1.ci (t := t) (fun w => absurd ⟨w.1, by omega⟩ q)
      rwa [show fyV M t = -2 from if_pos (by omega), show fyM M t = M from if_pos (by omega)] at k9
    · have m := m_played (x := x) (y := y) (z := z) h.1.hy (t := t)
      rwa [show oPyV M t = -2 from if_neg (by omega), show oPyM M t = M from if_neg (by omega)] at m
