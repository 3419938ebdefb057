theorem bd_l {M : Me} {n : Nat} {s i : Int} (h : s ≤ 2) : bdV M n s i = lcV M n i ∧ bdM M n s i = lcM M n i := by
  unfold bdV bdM
  rw [if_neg (by omega), if_neg (by omega), if_neg (by omega), if_neg (by omega), if_neg (by omega), if_neg (by omega), if_neg (by omega), if_neg (by omega), if_neg (by omega), if_neg (by omega), if_neg (by omega), if_neg (by omega), if_neg (by omega), if_neg (by omega)]
  exact ⟨rfl, rfl⟩
/-- the class as a clause begins -/
def cl1 (C : Me) (x : Int) (n : Nat) : Me := goC (beC (up C 2 9 (C 2 7 - 16)) x (C 2 7)) n
theorem cl1_o {C : Me} {x : Int} {n : Nat} {a j : Int} (h : ¬ (a = 2 ∧ (5 ≤ j ∧ j ≤ 9)) ∧ ¬ (a = x + 3 ∧ j = C x 0) ∧ ¬ (a = x ∧ j = 0)) (hx : 15 ≤ x) : cl1 C x n a j = C a j := by
  unfold cl1
  rw [goC_o (by omega)]
  unfold beC
  have e : up C 2 9 (C 2 7 - 16) x 0 = C x 0 := up_ne (by omega)
  rw [e]
  split
  · exact (up_ne (by omega)).trans ((up_ne (by omega)).trans (up_ne (by omega)))
  · exact up_ne (by omega)
theorem cl1_e {C : Me} {x : Int} {n : Nat} (hx : 15 ≤ x) (h : C x 0 < 24) : cl1 C x n x 0 = C x 0 + 1 ∧ cl1 C x n (x + 3) (C x 0) = C 2 7 ∧ cl1 C x n 2 9 = C 2 7 - 16 := by
  unfold cl1
  have e : up C 2 9 (C 2 7 - 16) x 0 = C x 0 := up_ne (by omega)
  rw [goC_o (by omega), goC_o (by omega), goC_o (by omega)]
  unfold beC
  rw [e, if_pos h]
  exact ⟨up_eq ⟨rfl, rfl⟩, (up_ne (by omega)).trans (up_eq ⟨rfl, rfl⟩), (up_ne (by omega)).trans ((up_ne (by omega)).trans (up_eq ⟨rfl, rfl⟩))⟩
theorem clX_s {A : Me} {n : Nat} : clX A n 432 (clI A) = soO A ∧ clX A n 429 14 = soO A := by
  unfold clX
  exact ⟨up_eq ⟨rfl, rfl⟩, (up_ne (by omega)).trans ((nxT_o (by omega)).trans (up_eq ⟨rfl, rfl⟩))⟩
theorem clX_19 {A : Me} {n : Nat} : clX A n 429 19 = clO A 429 19 := by
  unfold clX
  exact (up_ne (by omega)).trans ((nxT_o (by omega)).trans (up_ne (by omega)))
theorem cl_ds {C A : Me} {n : Nat} {x : Int} (hx : 15 ≤ x ∧ x ≤ 39) (h : DS C A n) (h0 : C 2 7 ≠ 0) : DS (cl1 C x n) (clX A n) n ∧ A 429 8 + 1 ≤ clX A n 429 8 := by
  have bo : ∀ a j : Int, a = 2 ∧ (j = 0 ∨ j = 5) ∨ a = 3 → beC (up C 2 9 (C 2 7 - 16)) x (C 2 7) a j = C a j := fun a j q => by
    unfold beC
    split
    · exact (up_ne (by omega)).trans ((up_ne (by omega)).trans (up_ne (by omega)))
    · exact up_ne (by omega)
  obtain ⟨t1, t2, t3⟩ := te_nx (C' := beC (up C 2 9 (C 2 7 - 16)) x (C 2 7)) (A' := up (clO A) 429 14 (soO A)) h.1 h.2.1 bo (fun a j q => (up_ne (by omega)).trans (clO_o (by omega)))
  have e : ∀ a j : Int, a ≠ 432 → clX A n a j = nxT (up (clO A) 429 14 (soO A)) n a j := fun a j q => up_ne (by omega)
  refine ⟨⟨t2.of ⟨rfl, fun _ => rfl⟩ ⟨e 429 4 (by decide), fun j => e 433 j (by decide)⟩, t1.of (fun _ _ _ => rfl) (fun j _ => e 429 j (by decide)) (fun j => e 433 j (by decide)), tv_go⟩, ?_⟩
  rw [e 429 8 (by decide)]
  have := h.2.1.2.1.2.2.2.1 h0
  omega
/-- behind a deed -/
theorem tx_deed {C A r2 A2 : Me} {n : Nat} {x z s : Int} (hx : 15 ≤ x ∧ x ≤ 39) (h : TXI C A n x z) (h0 : C 2 7 ≠ 0) (h24 : A 432 z < 24) (hs : soO A = s) (hs3 : 3 ≤ s ∧ s ≤ 10) (hk : kdm s = C 2 7) (d : DS r2 A2 n) (d8 : clX A n 429 8 ≤ A2 429 8) (dF : FD x (A 432 z) (nuD s) (cl1 C x n) r2) (dE : FE (z + 1 + 4 * A 432 z) (nuD s) (clX A n) A2) (dv : ∀ i : Int, 0 ≤ i → i < nuD s → r2 (x + 5 + i) (A 432 z) = A2 432 (z + 1 + 4 * A 432 z + 1 + i)) (db : (s = 9 → 1 ≤ A2 432 (z + 1 + 4 * A 432 z + 1) ∧ A2 432 (z + 1 + 4 * A 432 z + 1) ≤ 9) ∧ (s = 10 → 1 ≤ A2 432 (z + 1 + 4 * A 432 z + 1) ∧ A2 432 (z + 1 + 4 * A 432 z + 1) ≤ 60)) : TXI (goC r2 n) (nxT (up A2 432 z (A 432 z + 1)) n) n x z ∧ nxT (up A2 432 z (A 432 z + 1)) n 432 z = A 432 z + 1 := by
  obtain ⟨t, ⟨e12, ef1, ef2⟩, ⟨ec, e0, e24⟩, e13, e1, el, ei⟩ := h
  have c8 := (cl_ds hx t h0).2
  have cI : clI A = z + 1 + 4 * A 432 z := by unfold clI; rw [e12]
  have u3 : nuD s ≤ 3 ∧ 1 ≤ nuD s := by unfold nuD; omega
  obtain ⟨t1, t2, t3⟩ := te_nx (C' := r2) (A' := up A2 432 z (A 432 z + 1)) d.1 d.2.1 (fun _ _ _ => rfl) (fun a j q => up_ne (by omega))
  have ao : ∀ a j : Int, ¬ (a = 432 ∧ (j = z ∨ (z + 1 + 4 * A 432 z ≤ j ∧ j ≤ z + 1 + 4 * A 432 z + 3))) → ¬ (a = 429 ∧ ((7 ≤ j ∧ j ≤ 11) ∨ j = 14 ∨ j = 19)) → nxT (up A2 432 z (A 432 z + 1)) n a j = A a j := fun a j q1 q2 => by
    rw [nxT_o (by omega), up_ne (by omega), dE a j (by omega) (by omega)]
    exact clX_o (by rw [cI]; omega)
  have co : ∀ a j : Int, ¬ (a = 2 ∧ (5 ≤ j ∧ j ≤ 9)) → ¬ (x + 3 ≤ a ∧ a ≤ x + 7 ∧ j = A 432 z) → ¬ (a = x ∧ j = 0) → goC r2 n a j = C a j := fun a j q1 q2 q3 => by
    rw [goC_o (by omega), dF a j (by omega) (by omega)]
    exact cl1_o (by rw [ec]; omega) hx.1
  have ce := cl1_e (n := n) hx.1 (show C x 0 < 24 by omega)
  have cnt : nxT (up A2 432 z (A 432 z + 1)) n 432 z = A 432 z + 1 := (nxT_o (by omega)).trans (up_eq ⟨rfl, rfl⟩)
  have srt : nxT (up A2 432 z (A 432 z + 1)) n 432 (z + 1 + 4 * A 432 z) = s := by
    rw [nxT_o (by omega), up_ne (by omega), dE _ _ (by omega) (by omega), ← cI, clX_s.1, hs]
  have a13 := ao 429 13 (by omega) (by omega)
  have a19 : nxT (up A2 432 z (A 432 z + 1)) n 429 19 = A 429 19 := by
    rw [nxT_o (by omega), up_ne (by omega), dE _ _ (by omega) (by omega), clX_19]
    unfold clO
    rw [if_neg (by omega)]
  have c1 := co x 1 (by omega) (by omega) (by omega)
  have tp := d.2.1.2.1
  refine ⟨⟨⟨t2, t1, tv_go⟩, ⟨(ao 429 12 (by omega) (by omega)).trans e12, (co 2 1 (by omega) (by omega) (by omega)).trans ef1, (co 2 2 (by omega) (by omega) (by omega)).trans ef2⟩, ⟨?_, ?_, ?_⟩, ⟨?_, ?_⟩, ⟨?_, ?_⟩, fun l l0 l1 => ⟨?_, ?_⟩, fun i i0 i1 => ?_⟩, cnt⟩
  · rw [cnt, goC_o (by omega), dF _ _ (by omega) (by omega), ce.1, ec]
  · rw [cnt]; omega
  · rw [cnt]; omega
  · rw [a13]; exact e13.1
  · rw [a13]; omega
  · rw [c1]; exact e1.1
  · rw [c1]; omega
  · rw [co (x + 1) l (by omega) (by omega) (by omega), a19]; exact (el l l0 l1).1
  · exact (el l l0 l1).2.of (Or.inr ⟨cnt, by rw [srt]; omega⟩) ⟨e0, e24⟩ (co _ _ (by omega) (by omega) (by omega)) (by rw [c1]; exact Int.le_refl _) (by rw [a13]; exact Int.le_refl _) (fun j _ => co _ _ (by omega) (by omega) (by omega)) (fun j a b => ao _ _ (by omega) (by omega)) (fun j a b => ao _ _ (by omega) (by omega))
  · rw [cnt] at i1
    by_cases q : i = A 432 z
    · subst q
      unfold CLI
      rw [srt]
      refine ⟨⟨by omega, hs3.2⟩, ?_, fun _ u u0 u1 => ?_, ?_⟩
      · rw [goC_o (by omega), dF _ _ (by omega) (by omega), ← ec, ce.2.1]; exact hk.symm
      · rw [goC_o (by omega), nxT_o (by omega), up_ne (by omega)]; exact dv u u0 u1
      · rw [nxT_o (by omega), up_ne (by omega)]; exact db
    · exact (ei i i0 (by omega)).of (fun a w => co _ _ (by omega) (by omega) (by omega)) (fun j a b => ao _ _ (by omega) (by omega))
/-- behind a law -/
theorem tx_law {C A r2 V : Me} {n : Nat} {x z s : Int} (hx : 15 ≤ x ∧ x ≤ 39) (h : TXI C A n x z) (h0 : C 2 7 ≠ 0) (h24 : A 432 z < 24) (hs : soO A = s) (hs3 : 0 ≤ s ∧ s ≤ 2) (hk : kdm s = C 2 7) (h9 : C (x + 1) s = -1) (L : LST (up (cl1 C x n) (x + 1) s (C x 1)) (clX A n) r2 V n x (z + 1 + 4 * A 432 z)) (h5 : r2 2 7 = 5) : TXI (goC (adC r2 x 5 0) n) (nxT (up (up V 432 (z + 1 + 4 * A 432 z + 2) (V 429 13)) 432 z (A 432 z + 1)) n) n x z ∧ nxT (up (up V 432 (z + 1 + 4 * A 432 z + 2) (V 429 13)) 432 z (A 432 z + 1)) n 432 z = A 432 z + 1 := by
  obtain ⟨t, ⟨e12, ef1, ef2⟩, ⟨ec, e0, e24⟩, e13, e1, el, ei⟩ := h
  have c8 := (cl_ds hx t h0).2
  have cI : clI A = z + 1 + 4 * A 432 z := by unfold clI; rw [e12]
  obtain ⟨⟨l1, l2, l3⟩, l4, l5, l6, l7, l8⟩ := L
  have x13 : clX A n 429 13 = A 429 13 := clX_o (by omega)
  have x12 : clX A n 429 12 = z := (clX_o (by omega)).trans e12
  have cx1 : up (cl1 C x n) (x + 1) s (C x 1) x 1 = C x 1 := (up_ne (by omega)).trans (cl1_o (by omega) hx.1)
  rw [cx1] at l5 l6 l8
  rw [x13] at l4 l8
  rw [x12] at l8
  have tp := l2.2.1
  have n3 := l1.2.2.1
  have lt := tp.2.2.2.1 (by omega)
  have r3 : r2 x 1 < 300 := by omega
  obtain ⟨t1, t2, t3⟩ := te_nx (C' := adC r2 x 5 0) (A' := up (up V 432 (z + 1 + 4 * A 432 z + 2) (V 429 13)) 432 z (A 432 z + 1)) l1 l2 (fun a j q => adT hx.1 (by omega) j) (fun a j q => (up_ne (by omega)).trans (up_ne (by omega)))
  -- the reference's cells
  have lo : ∀ a j : Int, ¬ (a = 432 ∧ j = z + 1 + 4 * A 432 z + 1) → ¬ (a = 429 ∧ (j = 16 ∨ j = 17 ∨ j = 18)) → lcX (clX A n) (z + 1 + 4 * A 432 z) a j = clX A n a j := fun a j q1 q2 => (up_ne (by omega)).trans ((up_ne (by omega)).trans ((up_ne (by omega)).trans (up_ne (by omega))))
  have lX : lcX (clX A n) (z + 1 + 4 * A 432 z) 432 (z + 1 + 4 * A 432 z + 1) = A 429 13 := (up_ne (by omega)).trans ((up_ne (by omega)).trans ((up_ne (by omega)).trans ((up_eq ⟨rfl, rfl⟩).trans x13)))
  have l12 : lcX (clX A n) (z + 1 + 4 * A 432 z) 429 12 = z := (lo 429 12 (by omega) (by omega)).trans x12
  have l13 : lcX (clX A n) (z + 1 + 4 * A 432 z) 429 13 = A 429 13 := (lo 429 13 (by omega) (by omega)).trans x13
  have vT : ∀ j : Int, j < z + 97 + 2 * A 429 13 → V 432 j = lcX (clX A n) (z + 1 + 4 * A 432 z) 432 j := fun j w => l7.1 432 j (by decide) (by omega) (fun _ => by rw [l12, l13]; exact w)
  have nT : ∀ j : Int, j ≠ z → j ≠ z + 1 + 4 * A 432 z + 2 → nxT (up (up V 432 (z + 1 + 4 * A 432 z + 2) (V 429 13)) 432 z (A 432 z + 1)) n 432 j = V 432 j := fun j w1 w2 => (nxT_o (by omega)).trans ((up_ne (by omega)).trans (up_ne (by omega)))
  have nO : ∀ j : Int, ¬ (7 ≤ j ∧ j ≤ 11) → nxT (up (up V 432 (z + 1 + 4 * A 432 z + 2) (V 429 13)) 432 z (A 432 z + 1)) n 429 j = V 429 j := fun j w => (nxT_o (by omega)).trans ((up_ne (by omega)).trans (up_ne (by omega)))
  have aT : ∀ j : Int, j < z + 97 + 2 * A 429 13 → ¬ (j = z ∨ (z + 1 + 4 * A 432 z ≤ j ∧ j ≤ z + 1 + 4 * A 432 z + 2)) → nxT (up (up V 432 (z + 1 + 4 * A 432 z + 2) (V 429 13)) 432 z (A 432 z + 1)) n 432 j = A 432 j := fun j w1 w2 => by
    rw [nT j (by omega) (by omega), vT j w1, lo 432 j (by omega) (by omega)]
    exact clX_o (by rw [cI]; omega)
  have cnt : nxT (up (up V 432 (z + 1 + 4 * A 432 z + 2) (V 429 13)) 432 z (A 432 z + 1)) n 432 z = A 432 z + 1 := (nxT_o (by omega)).trans (up_eq ⟨rfl, rfl⟩)
  have srt : nxT (up (up V 432 (z + 1 + 4 * A 432 z + 2) (V 429 13)) 432 z (A 432 z + 1)) n 432 (z + 1 + 4 * A 432 z) = s := by
    rw [nT _ (by omega) (by omega), vT _ (by omega), lo _ _ (by omega) (by omega), ← cI, clX_s.1, hs]
  have tX1 : nxT (up (up V 432 (z + 1 + 4 * A 432 z + 2) (V 429 13)) 432 z (A 432 z + 1)) n 432 (z + 1 + 4 * A 432 z + 1) = A 429 13 := by
    rw [nT _ (by omega) (by omega), vT _ (by omega), lX]
  have tX2 : nxT (up (up V 432 (z + 1 + 4 * A 432 z + 2) (V 429 13)) 432 z (A 432 z + 1)) n 432 (z + 1 + 4 * A 432 z + 2) = V 429 13 := (nxT_o (by omega)).trans ((up_ne (by omega)).trans (up_eq ⟨rfl, rfl⟩))
  have n13 := nO 13 (by omega)
  have n12 : nxT (up (up V 432 (z + 1 + 4 * A 432 z + 2) (V 429 13)) 432 z (A 432 z + 1)) n 429 12 = z := by rw [nO 12 (by omega), l7.1 429 12 (by decide) (by omega) (by omega)]; exact l12
  have n19 : nxT (up (up V 432 (z + 1 + 4 * A 432 z + 2) (V 429 13)) 432 z (A 432 z + 1)) n 429 19 = or32 (A 429 19) (shl32 1 s) := by
    rw [nO 19 (by omega), l7.1 429 19 (by decide) (by omega) (by omega), lo 429 19 (by omega) (by omega), clX_19]
    unfold clO
    rw [hs, if_pos hs3.2]
    exact up_eq ⟨rfl, rfl⟩
  -- the class's cells
  have kx : goC (adC r2 x 5 0) n x 1 = r2 x 1 + 1 := (goC_o (by omega)).trans (ad_n r3)
  have kA : ∀ a j : Int, ¬ (a = 2 ∧ 5 ≤ j ∧ j ≤ 8) → ¬ (a = x ∧ j = 1) → ¬ (a = x + 2 ∧ j = r2 x 1) → goC (adC r2 x 5 0) n a j = r2 a j := fun a j w1 w2 w3 => (goC_o w1).trans (ad_p w2 w3)
  have kC : ∀ a j : Int, ¬ (a = 2 ∧ (5 ≤ j ∧ j ≤ 9)) → ¬ (a = x ∧ (j = 0 ∨ j = 1)) → ¬ (a = x + 1 ∧ j = s) → ¬ (a = x + 2 ∧ C x 1 ≤ j) → ¬ (a = x + 3 ∧ j = A 432 z) → goC (adC r2 x 5 0) n a j = C a j := fun a j w1 w2 w3 w4 w5 => by
    rw [kA a j (by omega) (by omega) (by omega), l6 a j (by omega) (by omega) (by omega), up_ne (by omega)]
    exact cl1_o (by rw [ec]; omega) hx.1
  have ce := cl1_e (n := n) hx.1 (show C x 0 < 24 by omega)
  have k1s : goC (adC r2 x 5 0) n (x + 1) s = C x 1 := by
    rw [kA _ _ (by omega) (by omega) (by omega), l6 _ _ (by omega) (by omega) (by omega)]
    exact up_eq ⟨rfl, rfl⟩
  obtain ⟨sn, hsn⟩ := Int.eq_ofNat_of_zero_le hs3.1
  have hsn : s = (sn : Int) := hsn
  have cn0 : ∀ i : Int, 0 ≤ i → i < A 432 z → A 432 (z + 1 + 4 * i) ≠ s := by
    rcases (el s hs3.1 (by omega)).2 with w | ⟨i, c1, -, -, -, w, -⟩
    · exact w.2
    · rw [h9] at w; exact absurd w (by decide)
  refine ⟨⟨⟨t2, t1, tv_go⟩, ⟨n12, (kC 2 1 (by omega) (by omega) (by omega) (by omega) (by omega)).trans ef1, (kC 2 2 (by omega) (by omega) (by omega) (by omega) (by omega)).trans ef2⟩, ⟨?_, ?_, ?_⟩, ⟨?_, ?_⟩, ⟨?_, ?_⟩, fun l m0 m1 => ?_, fun i i0 i1 => ?_⟩, cnt⟩
  · rw [cnt, kA _ _ (by omega) (by omega) (by omega), l6 _ _ (by omega) (by omega) (by omega), up_ne (by omega), ce.1, ec]
  · rw [cnt]; omega
  · rw [cnt]; omega
  · rw [n13]; omega
  · rw [n13]; omega
  · rw [kx]; omega
  · rw [kx]; omega
  · obtain ⟨ln, hln⟩ := Int.eq_ofNat_of_zero_le m0
    have hln : l = (ln : Int) := hln
    have bit : and32 (shr32 (or32 (A 429 19) (shl32 1 s)) l) 1 = 1 ↔ and32 (shr32 (A 429 19) l) 1 = 1 ∨ l = s := by
      rw [hln, hsn, tb_has (by omega), tb_has (by omega), tb_or, tb_shl1 (by omega) (by omega), Bool.or_eq_true, decide_eq_true_eq]
      exact ⟨fun w => w.imp id (fun e => by omega), fun w => w.imp id (fun e => by omega)⟩
    rw [n19]
    by_cases q : l = s
    · rw [q] at bit ⊢
      refine ⟨?_, ?_⟩
      · rw [k1s]
        exact ⟨fun _ => bit.mpr (Or.inr rfl), fun _ => by omega⟩
      · obtain ⟨m, hm⟩ := Int.eq_ofNat_of_zero_le e0
        have hm : A 432 z = (m : Int) := hm
        refine Or.inr ⟨m, r2 x 1, by rw [cnt]; omega, by rw [← hm]; exact srt, fun p hp hq => ?_, by rw [k1s]; exact e1.1, by rw [kx]; omega, (goC_o (by omega)).trans (ad_i r3), ?_, ?_, ?_⟩
        · rw [cnt] at hp
          rw [aT _ (by omega) (by omega)]
          exact cn0 p (by omega) (by omega)
        · rw [← hm, tX1]; exact e13.1
        · rw [← hm, tX2, n13]; exact Int.le_refl _
        · rw [← hm, tX1, tX2, k1s]
          exact l8.c (fun j a b => kA _ _ (by omega) (by omega) (by omega)) (fun j a b => nT j (by omega) (by omega))
    · refine ⟨?_, ?_⟩
      · rw [kC _ _ (by omega) (by omega) (by omega) (by omega) (by omega), bit]
        exact (el l m0 m1).1.trans ⟨fun w => Or.inl w, fun w => w.resolve_right q⟩
      · exact (el l m0 m1).2.of (Or.inr ⟨cnt, by rw [srt]; exact fun w => q w.symm⟩) ⟨e0, e24⟩ (kC _ _ (by omega) (by omega) (by omega) (by omega) (by omega)) (by rw [kx]; omega) (by rw [n13]; exact l4.2.1) (fun j w => kC _ _ (by omega) (by omega) (by omega) (by omega) (by omega)) (fun j a b => aT j (by omega) (by omega)) (fun j a b => aT j (by omega) (by omega))
  · rw [cnt] at i1
    by_cases q : i = A 432 z
    · subst q
      unfold CLI
      rw [srt]
      refine ⟨⟨hs3.1, by omega⟩, ?_, fun w => by omega, fun w => by omega, fun w => by omega⟩
      rw [kA _ _ (by omega) (by omega) (by omega), l6 _ _ (by omega) (by omega) (by omega), up_ne (by omega), ← ec, ce.2.1]; exact hk.symm
    · exact (ei i i0 (by omega)).of (fun a w => kC _ _ (by omega) (by omega) (by omega) (by omega) (by omega)) (fun j a b => aT j (by omega) (by omega))
