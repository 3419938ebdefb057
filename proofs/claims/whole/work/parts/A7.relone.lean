theorem if_cg {p q : Prop} [Decidable p] [Decidable q] {a b c d : Int} (h : p ↔ q) (e1 : a = b) (e2 : c = d) : (if p then a else c) = (if q then b else d) := by
  subst e1; subst e2
  by_cases w : p
  · rw [if_pos w, if_pos (h.mp w)]
  · rw [if_neg w, if_neg (fun z => w (h.mpr z))]
theorem te_bg {C A : Me} {n : Nat} (h : TE C A n) {m : Nat} : bgO A m = if C 2 7 = 3 then 40 else if C 2 7 = 7 then 5 else if C 2 7 = 35 then 2 else if C 2 7 = 36 then 3 else if C 2 7 = 37 then 41 else if C 2 7 = 41 ∧ ahP A m then 20 else 0 := by
  have sg := te_sg h
  unfold bgO
  exact if_cg sg.2.2.1 rfl (if_cg sg.2.2.2.2.2.2.1 rfl (if_cg (te_turned h) rfl (if_cg (te_deep h) rfl (if_cg (te_if h) rfl (if_cg ⟨fun w => ⟨(te_not h).mp w.1, w.2⟩, fun w => ⟨(te_not h).mpr w.1, w.2⟩⟩ rfl rfl)))))
def CHG (n : Nat) (x o : Int) (R : RF) : Prop := ∀ (C A : Me) (m : Nat) (k : Int), ENT C A n x o m → (m : Int) ≤ 6 * o + 5 → o < 8 → C 2 7 = k → (k = 7 ∨ k = 35 ∨ k = 36) → REQ C A n x o m 7 0 (5 * o + 5) 7 (R 3 (o + 1) k (goC C n))
def CHO (n : Nat) (x o : Int) (R : RF) : Prop := ∀ (C A : Me) (m : Nat), ENT C A n x o m → (m : Int) ≤ 6 * o + 5 → o < 8 → C 2 7 = 37 → REQ C A n x o m 7 0 (5 * o + 5) 7 (R 4 (o + 1) 0 (goC C n))
def NOP (n : Nat) (x o : Int) (R : RF) : Prop := ∀ (C A : Me) (m : Nat), ENT C A n x o m → (m : Int) ≤ 6 * o + 2 → (1 ≤ m ∧ opn A m = 41 ∧ rnk (A 434 ((m : Int) - 1)) ≤ 3) → o < 8 → C 2 7 = 41 → REQ C A n x o m 3 1 (5 * o + 2) 3 (R 8 (o + 1) 0 C)
theorem endt7 {k : Int} : ENDT 7 k := by unfold ENDT; omega
theorem endt3 {k : Int} (h : k ≠ 8 ∧ k ≠ 9 ∧ k ≠ 6 ∧ k ≠ 7) : ENDT 3 k := by unfold ENDT; omega
theorem FAIL.z {A : Me} {n : Nat} {r : RV} (h : FAIL A n r) : FAIL A n (0, r.2) := h.of rfl rfl rfl
/-- a sign before one -/
theorem chg_ok {n : Nat} {x o : Int} {R : RF} (hx : 15 ≤ x ∧ x ≤ 39) (h2 : o < 8 → NUM n x (o + 1) 5 7 7 (R 2 (o + 1) 0)) : CHG n x o (fun fn o k M => if fn = 3 then chgB x R o k M else (0, M)) := by
  intro C A m k hE hm ho hk k3
  have t := hE.1.2.1
  have sg := te_sg t
  have na := te_na t
  rw [if_neg (by omega)] at na
  obtain ⟨v, hv, v7, v40, vt⟩ : ∃ v : Int, bgO A m = v ∧ rnk v = 7 ∧ v < 40 ∧ (((if k = 7 then (44 : Int) else k) = 44 ∧ v = 5) ∨ ((if k = 7 then (44 : Int) else k) = 35 ∧ v = 2) ∨ ((if k = 7 then (44 : Int) else k) = 36 ∧ v = 3)) := by
    rw [te_bg t, hk]
    rcases k3 with q | q | q <;> subst q
    · exact ⟨5, by simp only [reduceIte, Int.reduceEq], by decide, by decide, by decide⟩
    · exact ⟨2, by simp only [reduceIte, Int.reduceEq], by decide, by decide, by decide⟩
    · exact ⟨3, by simp only [reduceIte, Int.reduceEq], by decide, by decide, by decide⟩
  have v0 : v ≠ 0 := by omega
  obtain ⟨g1, g2, g3, g4, g5, g6, g7⟩ := ent_op hx hE (by omega) hv v0 (by omega) (fun w => by have := sg.2.1.mp w; omega) ho (by omega)
  have inn := h2 ho (goC C n) (nxT (opM A v) n) (m + 1) g2 (by omega) (Or.inr (by rw [show ((m + 1 : Nat) : Int) - 1 = (m : Int) by omega, g3]; omega)) (fun _ u => by
    have := u.2
    rw [show ((m + 1 : Nat) : Int) - 1 = (m : Int) by omega, g3] at this
    omega)
  show REQ C A n x o m 7 0 (5 * o + 5) 7 (if (3 : Int) = 3 then chgB x R (o + 1) k (goC C n) else (0, goC C n))
  rw [if_pos rfl]
  unfold chgB
  rcases inn with ⟨s1, s2, A3, V3, s3, s4⟩ | s0
  · have fin := un_fin (bd := 5 * o + 5) hx hE (tok := if k = 7 then 44 else k) ⟨g3, g4, g5, g6, g7⟩ s4 v40 (Or.inl v7) (by omega) (by omega) (by
      rw [s4.2.2.2.2.2.2.2.2.1.2, if_neg (by decide), if_neg (by decide), show icS (nxT (opM A v) n) (m + 1) = icS (nxT (opM A v) n) m from if_pos (by rw [g3]; omega)]
      exact icS_c _ (fun j hj => g4 j (by omega) (by omega))) (fun K T p c0 c1 w0 w1 a b d => SEG.one (by have := hE.2.2.2.2.1; omega) a vt b d)
    exact Or.inl ⟨s1, endt7, A3, _, g1.t s3, fin⟩
  · exact Or.inr ((s0.t g1).ad hx.1)
/-- a sum in brackets -/
theorem par_ok {n : Nat} {x o : Int} {R : RF} (hx : 15 ≤ x ∧ x ≤ 39) (h0 : o < 8 → NUM n x (o + 1) 3 4 5 (R 0 (o + 1) 0)) {C A : Me} {m : Nat} (hE : ENT C A n x o m) (hm : (m : Int) ≤ 6 * o + 5) (ho : o < 8) (hk : C 2 7 = 3) : REQ C A n x o m 7 0 (5 * o + 5) 7 (if (R 0 (o + 1) 0 (goC C n)).1 = 0 then (0, (R 0 (o + 1) 0 (goC C n)).2) else paC (R 0 (o + 1) 0 (goC C n)).2 n 4) := by
  have t := hE.1.2.1
  have sg := te_sg t
  have na := te_na t
  rw [if_neg (by omega)] at na
  have hv : bgO A m = 40 := by rw [te_bg t, if_pos hk]
  obtain ⟨g1, g2, g3, g4, g5, g6, g7⟩ := ent_op hx hE (by omega) hv (by decide) (by omega) (fun w => by have := sg.2.1.mp w; omega) ho (by omega)
  have op40 : opn (nxT (opM A 40) n) (m + 1) = 40 := by
    unfold opn
    rw [oaS_t (by rw [g3]; decide), if_neg (by omega)]; exact g3
  have inn := h0 ho (goC C n) (nxT (opM A 40) n) (m + 1) g2 (by omega) (Or.inr (by rw [show ((m + 1 : Nat) : Int) - 1 = (m : Int) by omega, g3]; decide)) (fun _ u => by have := u.1; omega)
  rcases inn with ⟨s1, s2, A3, V3, s3, s4⟩ | s0
  · rw [if_neg s1]
    generalize R 0 (o + 1) 0 (goC C n) = r at s1 s2 s4
    have h17 := s4.2.1.2.2.1 (by decide)
    have t3 := s4.1.2.1
    have sg3 := te_sg t3
    have oo : opn A3 (pil A3) = 40 := s4.2.2.2.2.2.2.2.2.1.1.trans op40
    have bO : bhO A3 (pil A3) = -1 := by
      rw [bw_no t3 (by unfold ENDT at s2; omega), oo, if_pos (by decide)]
    have bP : bhP A3 (pil A3) = if r.2 2 7 = 4 then 0 else -1 := by
      unfold bhP paO
      rw [oo, if_pos rfl]
      exact if_cg sg3.2.2.2.1 rfl rfl
    unfold paC
    by_cases q : r.2 2 7 = 4
    · rw [if_pos q]
      rw [if_pos q] at bP
      have f := g6.tr s4.2.2.2.2.1.2.1
      have fV := g6.tr s4.2.2.2.2.1.2.2
      have e1 : goC C n x 1 = C x 1 := goC_o (by omega)
      have p4 := s4.2.2.2.1
      have p3 := s4.2.2.1
      rw [e1] at p4
      rw [g5 429 13 (by decide) (by omega)] at p3
      have p9 := s4.2.2.2.2.1.1
      rw [e1] at p9
      obtain ⟨A2, W, z1, z2⟩ := cl_nx (Cy := r.2) (bd := 5 * o + 5) hx hE g2 s4 h17 (by decide) (by rw [g3]; decide) (by omega) bP (by omega) (g1.t s3) f fV (fun j a b => by rw [s4.2.2.2.2.2.2.2.1 j a (by omega)]; exact g4 j a b) (by omega) (by omega) ⟨fun _ => rfl, fun _ => rfl⟩ ((FRC.go (n := n)).t p9 (Int.le_refl _)) ⟨by omega, by omega⟩ (fun T a b => by
        rw [oo, if_neg (by decide)]
        have sgm := s4.2.2.2.2.2.2.2.2.2.2
        rw [e1, g5 429 13 (by decide) (by omega), g5 429 12 (by decide) (by omega)] at sgm
        exact (sgm.w (by omega)).c (fun _ _ _ => rfl) (fun i _ c => a i c))
      exact Or.inl ⟨(show (1 : Int) ≠ 0 by decide), endt7, A2, W, z1, z2⟩
    · rw [if_neg q]
      rw [if_neg q] at bP
      exact Or.inr ((no_part g2 s4 s3 h17 (by omega) (by omega) (by omega)).t g1)
  · rw [if_pos s0.1]
    exact Or.inr ((s0.t g1).z)
