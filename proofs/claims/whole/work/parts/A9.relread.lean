theorem rd_0 {n : Nat} {x o k : Int} {f : Nat} {M : Me} : rdC n x (f + 1) 0 o k M = lpC n x (fun N => rdC n x f 1 o 0 N) 6 7 300 (rdC n x f 1 o 0 M) := by
  show rdB n x (rdC n x f) 0 o k M = _
  unfold rdB
  simp only [reduceIte, Int.reduceEq]
theorem rd_1 {n : Nat} {x o k : Int} {f : Nat} {M : Me} : rdC n x (f + 1) 1 o k M = lpC n x (fun N => rdC n x f 2 o 0 N) 8 9 300 (rdC n x f 2 o 0 M) := by
  show rdB n x (rdC n x f) 1 o k M = _
  unfold rdB
  simp only [reduceIte, Int.reduceEq]
theorem rd_2 {n : Nat} {x o k : Int} {f : Nat} {M : Me} : rdC n x (f + 1) 2 o k M = oneB n x (rdC n x f) o M := by
  show rdB n x (rdC n x f) 2 o k M = _
  unfold rdB
  simp only [reduceIte, Int.reduceEq]
theorem rd_3 {n : Nat} {x o k : Int} {f : Nat} {M : Me} : rdC n x (f + 1) 3 o k M = chgB x (rdC n x f) o k M := by
  show rdB n x (rdC n x f) 3 o k M = _
  unfold rdB
  simp only [reduceIte, Int.reduceEq]
theorem rd_4 {n : Nat} {x o k : Int} {f : Nat} {M : Me} : rdC n x (f + 1) 4 o k M = choB n x (rdC n x f) o M := by
  show rdB n x (rdC n x f) 4 o k M = _
  unfold rdB
  simp only [reduceIte, Int.reduceEq]
theorem rd_5 {n : Nat} {x o k : Int} {f : Nat} {M : Me} : rdC n x (f + 1) 5 o k M = lpC n x (fun N => rdC n x f 6 o 0 N) 43 43 300 (rdC n x f 6 o 0 M) := by
  show rdB n x (rdC n x f) 5 o k M = _
  unfold rdB
  simp only [reduceIte, Int.reduceEq]
theorem rd_6 {n : Nat} {x o k : Int} {f : Nat} {M : Me} : rdC n x (f + 1) 6 o k M = lpC n x (fun N => rdC n x f 7 o 0 N) 42 42 300 (rdC n x f 7 o 0 M) := by
  show rdB n x (rdC n x f) 6 o k M = _
  unfold rdB
  simp only [reduceIte, Int.reduceEq]
theorem rd_7 {n : Nat} {x o k : Int} {f : Nat} {M : Me} : rdC n x (f + 1) 7 o k M = askB n x (rdC n x f) o M := by
  show rdB n x (rdC n x f) 7 o k M = _
  unfold rdB
  simp only [reduceIte, Int.reduceEq]
theorem rd_8 {n : Nat} {x o k : Int} {f : Nat} {M : Me} : rdC n x (f + 1) 8 o k M = notB n x (rdC n x f) o M := by
  show rdB n x (rdC n x f) 8 o k M = _
  unfold rdB
  simp only [reduceIte, Int.reduceEq]
theorem RES.q {C A : Me} {n : Nat} {x o : Int} {m : Nat} {tr bd : Int} {r : RV} (h : RES C A n x o m 7 tr bd r) : REQ C A n x o m 7 tr bd 7 r := by
  rcases h with ⟨h1, h2⟩ | h
  · exact Or.inl ⟨h1, endt7, h2⟩
  · exact Or.inr h
/-- one -/
theorem one_ok {n : Nat} {x o : Int} {R : RF} (hx : 15 ≤ x ∧ x ≤ 39) (h0 : o < 8 → NUM n x (o + 1) 3 4 5 (R 0 (o + 1) 0)) (h3 : o < 8 → CHG n x o R) (h4 : o < 8 → CHO n x o R) : NUM n x o 5 7 7 (fun M => oneB n x R o M) := by
  intro C A m hE hm htop hah
  have gd := hE.gd
  have hp := hE.pl
  have h18 := hE.2.2.2.2.2.2.2
  have ho8 := hE.2.2.2.2.1
  have t := hE.1.2.1
  have sg := te_sg t
  have na := te_na t
  show REQ C A n x o m 7 0 (5 * o + 5) 7 (oneB n x R o C)
  unfold oneB
  by_cases q : C 2 7 = 2 ∨ (25 ≤ C 2 7 ∧ C 2 7 ≤ 33)
  · rw [if_pos q]
    exact (r_leaf hx hE q).q
  · rw [if_neg q]
    have a9 : A 429 9 ≠ 1 := fun w => by have := sg.2.1.mp w; omega
    rw [if_neg (by omega)] at na
    by_cases q1 : C 2 7 ≠ 3 ∧ C 2 7 ≠ 7 ∧ C 2 7 ≠ 35 ∧ C 2 7 ≠ 36 ∧ C 2 7 ≠ 37
    · rw [if_pos q1]
      have bg : bgO A m = 0 := by
        rw [te_bg t, if_neg q1.1, if_neg q1.2.1, if_neg q1.2.2.1, if_neg q1.2.2.2.1, if_neg q1.2.2.2.2, if_neg (fun w => hah w.1 w.2)]
      have b := bg_1 (M := A) (n := n) (m := m) a9 (by omega) bg
      exact Or.inr (FAIL.s t gd (by decide) (by decide) ((sd_b1 h18 hp (by rw [b.1]; decide)).trans (by rw [b.1, b.2])))
    · rw [if_neg q1]
      by_cases q2 : 8 ≤ o
      · rw [if_pos q2]
        obtain ⟨v, hv, v0⟩ : ∃ v : Int, bgO A m = v ∧ v ≠ 0 := by
          refine ⟨bgO A m, rfl, ?_⟩
          rw [te_bg t]
          rcases (show C 2 7 = 3 ∨ C 2 7 = 7 ∨ C 2 7 = 35 ∨ C 2 7 = 36 ∨ C 2 7 = 37 by omega) with w | w | w | w | w <;> rw [w] <;> simp only [reduceIte, Int.reduceEq] <;> decide
        have b := bg_o (M := A) (n := n) (m := m) a9 (by omega) hv v0
        have o8 : A 429 17 = 8 := by omega
        have bv : bgV A m = 3 := b.1.trans (if_pos o8)
        have bm : bgM A n m = A := b.2.trans (if_pos o8)
        exact Or.inr (FAIL.s t gd (by decide) (by decide) ((sd_b1 h18 hp (by rw [bv]; decide)).trans (by rw [bv, bm])))
      · rw [if_neg q2]
        by_cases q3 : C 2 7 = 37
        · rw [if_pos q3]
          exact h4 (by omega) C A m hE hm (by omega) q3
        · rw [if_neg q3]
          by_cases q4 : C 2 7 = 3
          · rw [if_pos q4]
            exact par_ok hx h0 hE hm (by omega) q4
          · rw [if_neg q4]
            exact h3 (by omega) C A m (C 2 7) hE hm (by omega) rfl (by omega)
/-- not -/
theorem not_ok {n : Nat} {x o : Int} {R : RF} (hx : 15 ≤ x ∧ x ≤ 39) (h7 : o < 8 → TRU n x (o + 1) 2 3 3 (R 7 (o + 1) 0)) {C A : Me} {m : Nat} (hE : ENT C A n x o m) (hm : (m : Int) ≤ 6 * o + 2) (htop : 1 ≤ m ∧ opn A m = 41 ∧ rnk (A 434 ((m : Int) - 1)) ≤ 3) (ho : o < 8) (hk : C 2 7 = 41) : REQ C A n x o m 3 1 (5 * o + 2) 3 (notB n x R (o + 1) C) := by
  have t := hE.1.2.1
  have sg := te_sg t
  have na := te_na t
  have ho8 := hE.2.2.2.2.1
  rw [if_neg (by omega)] at na
  have ah : ahP A m := by
    refine ⟨htop.2.1, ?_⟩
    have b := rnk_b (v := A 434 ((m : Int) - 1))
    by_cases z : 40 ≤ A 434 ((m : Int) - 1)
    · exact Or.inl z
    · refine Or.inr ⟨?_, htop.2.2⟩
      unfold rnk at b ⊢
      rw [if_neg z] at b ⊢
      (repeat' split) <;> omega
  have hv : bgO A m = 20 := by rw [te_bg t, if_neg (by omega), if_neg (by omega), if_neg (by omega), if_neg (by omega), if_neg (by omega), if_pos ⟨hk, ah⟩]
  obtain ⟨g1, g2, g3, g4, g5, g6, g7⟩ := ent_op hx hE (by omega) hv (by decide) (by omega) (fun w => by have := sg.2.1.mp w; omega) ho (by omega)
  have inn := h7 ho (goC C n) (nxT (opM A 20) n) (m + 1) g2 (by omega) ⟨by omega, by rw [opn_1 (by rw [g3]; decide), opn_c (M := A) g4]; exact htop.2.1, by rw [show ((m + 1 : Nat) : Int) - 1 = (m : Int) by omega, g3]; decide⟩
  unfold notB
  rcases inn with ⟨s1, s2, A3, V3, s3, s4⟩ | s0
  · have fin := un_fin (bd := 5 * o + 2) hx hE (tok := 41) ⟨g3, g4, g5, g6, g7⟩ s4 (by decide) (Or.inr rfl) (by decide) (by omega) (by
      rw [s4.2.2.2.2.2.2.2.2.1.2]; rfl) (fun K T p c0 c1 w0 w1 a b d => SEG.not (by omega) a b d)
    refine Or.inl ⟨s1, ?_, A3, _, g1.t s3, fin⟩
    show ENDT 3 (adC (R 7 (o + 1) 0 (goC C n)).2 x 41 0 2 7)
    rw [adC_o hx.1 (by decide)]; exact s2
  · exact Or.inr ((s0.t g1).ad hx.1)
/-- what is asked -/
theorem ask_ok {n : Nat} {x o : Int} {R : RF} (hx : 15 ≤ x ∧ x ≤ 39) (h0 : NUM n x o 3 4 5 (R 0 o 0)) (h8 : o < 8 → NOP n x o R) : TRU n x o 2 3 3 (fun M => askB n x R o M) := by
  intro C A m hE hm htop
  have gd := hE.gd
  have hp := hE.pl
  have h18 := hE.2.2.2.2.2.2.2
  have ho8 := hE.2.2.2.2.1
  have t := hE.1.2.1
  have sg := te_sg t
  have na := te_na t
  show REQ C A n x o m 3 1 (5 * o + 2) 3 (askB n x R o C)
  unfold askB
  by_cases q : C 2 7 = 41
  · rw [if_pos q]
    by_cases q2 : o < 8
    · rw [if_pos q2]
      exact h8 q2 C A m hE hm htop q2 q
    · rw [if_neg q2]
      rw [if_neg (by omega)] at na
      have ah : ahP A m := by
        refine ⟨htop.2.1, ?_⟩
        have b := rnk_b (v := A 434 ((m : Int) - 1))
        by_cases z : 40 ≤ A 434 ((m : Int) - 1)
        · exact Or.inl z
        · refine Or.inr ⟨?_, htop.2.2⟩
          unfold rnk at b ⊢
          rw [if_neg z] at b ⊢
          (repeat' split) <;> omega
      have hv : bgO A m = 20 := by rw [te_bg t, if_neg (by omega), if_neg (by omega), if_neg (by omega), if_neg (by omega), if_neg (by omega), if_pos ⟨q, ah⟩]
      have b := bg_o (M := A) (n := n) (m := m) (fun w => by have := sg.2.1.mp w; omega) (by omega) hv (by decide)
      have o8 : A 429 17 = 8 := by omega
      have bv : bgV A m = 3 := b.1.trans (if_pos o8)
      have bm : bgM A n m = A := b.2.trans (if_pos o8)
      exact Or.inr (FAIL.s t gd (by decide) (by decide) ((sd_b1 h18 hp (by rw [bv]; decide)).trans (by rw [bv, bm])))
  · rw [if_neg q]
    have i1 := h0 C A m hE (by omega) (Or.inr (by omega)) (fun w => absurd w q)
    generalize hr : R 0 o 0 C = r at i1 ⊢
    have ic0 : icS A m = 0 := by
      obtain ⟨k, rfl⟩ : ∃ k : Nat, m = k + 1 := ⟨m - 1, by omega⟩
      have e : ((k + 1 : Nat) : Int) - 1 = (k : Int) := by omega
      have w := htop.2.2
      rw [e] at w
      have : icS A (k + 1) = bi (rnk (A 434 (k : Int)) = 4) := if_neg (by omega)
      rw [this]; exact if_neg (by omega)
    rcases i1 with ⟨s1, s2, A3, V3, s3, s4⟩ | s0
    · rw [if_neg s1]
      have h17 := s4.2.1.2.2.1 (by decide)
      have t3 := s4.1.2.1
      have oo : opn A3 (pil A3) = 41 := s4.2.2.2.2.2.2.2.2.1.1.trans htop.2.1
      have ic : icS A3 (pil A3) = 0 := s4.2.2.2.2.2.2.2.2.1.2.trans ((if_neg (by decide)).trans ic0)
      unfold ENDT at s2
      have bO : bhO A3 (pil A3) = if 10 ≤ r.2 2 7 ∧ r.2 2 7 ≤ 15 then r.2 2 7 else -1 := by
        rw [bw_no t3 (by omega), oo, ic, if_neg (by decide), if_pos rfl]
      by_cases q2 : r.2 2 7 < 10 ∨ 15 < r.2 2 7
      · rw [if_pos q2]
        rw [if_neg (by omega)] at bO
        have bP : bhP A3 (pil A3) = -1 := by
          unfold bhP paO
          rw [oo, ic, if_neg (by decide), if_pos rfl, if_neg (fun w => w.2.2 rfl)]
        exact Or.inr (no_part hE s4 s3 h17 (by omega) (by omega) (by omega))
      · rw [if_neg q2]
        rw [if_pos (by omega)] at bO
        have rk : rnk (r.2 2 7) = 4 := by unfold rnk; omega
        have hR : bhR A3 (pil A3) = 5 := by unfold bhR; rw [bO, rk, if_pos rfl]
        obtain ⟨j1, j2, j3, j4, j5, j6, j7⟩ := lp_it hx hE s4 h17 (op := r.2 2 7) (R := 5) (by omega) bO hR (by decide) (Or.inr (by have := htop.2.2; omega)) (by omega) (by omega)
        have i2 := h0 (goC r.2 n) (psM V3 (r.2 2 7) n) (m + 1) j2 (by omega) (Or.inr (by rw [show ((m + 1 : Nat) : Int) - 1 = (m : Int) by omega, j3, rk]; decide)) (fun _ u => by
          have := u.2
          rw [show ((m + 1 : Nat) : Int) - 1 = (m : Int) by omega, j3, rk] at this
          omega)
        rcases i2 with ⟨u1, u2, A5, V5, u3, u4⟩ | u0
        · have k17 := u4.2.1.2.2.1 (by decide)
          have fin := lp_fin (bd := 5 * o + 2) (trf := 1) (ρf := 3) hx hE (s4.w (ρ2 := 5) (b2 := 5 * o + 2) (Int.le_refl _) (by decide) (by omega) h17) (tok := r.2 2 7) ⟨j3, j4, j5, j6, j7⟩ (by rw [show 5 * o + 2 + 1 = 5 * o + 3 by omega]; exact u4) k17 (by omega) (by rw [rk]; omega) (by rw [rk]; omega) (by
            rw [u4.2.2.2.2.2.2.2.2.1.2, if_neg (by decide), if_pos rfl, show icS (psM V3 (r.2 2 7) n) (m + 1) = bi (rnk (psM V3 (r.2 2 7) n 434 (m : Int)) = 4) from if_neg (by rw [j3, rk]; decide), j3, rk]; rfl) (fun K T p9 c0 c1 c2 w0 w1 w2 a b d e => SEG.cmp (by omega) a b (by omega) d e)
          refine Or.inl ⟨u1, ?_, A5, _, (s3.t j1).t u3, fin⟩
          show ENDT 3 (adC (R 0 o 0 (goC r.2 n)).2 x (r.2 2 7) 0 2 7)
          rw [adC_o hx.1 (by decide)]
          unfold ENDT at u2 ⊢
          omega
        · exact Or.inr ((u0.t (s3.t j1)).ad hx.1)
    · rw [if_pos s0.1]
      exact Or.inr s0.z
/-- the reading of a law, side by side -/
theorem sim {n : Nat} {x : Int} (hx : 15 ≤ x ∧ x ≤ 39) : ∀ (f : Nat) (o : Int), 0 ≤ o ∧ o ≤ 8 → (10 * (8 - o) + 3 ≤ (f : Int) → NUM n x o 3 4 5 (rdC n x f 0 o 0)) ∧ (10 * (8 - o) + 2 ≤ (f : Int) → NUM n x o 4 5 6 (rdC n x f 1 o 0)) ∧ (10 * (8 - o) + 1 ≤ (f : Int) → NUM n x o 5 7 7 (rdC n x f 2 o 0)) ∧ (10 * (8 - o) + 6 ≤ (f : Int) → TRU n x o 0 0 1 (rdC n x f 5 o 0)) ∧ (10 * (8 - o) + 5 ≤ (f : Int) → TRU n x o 1 1 2 (rdC n x f 6 o 0)) ∧ (10 * (8 - o) + 4 ≤ (f : Int) → TRU n x o 2 3 3 (rdC n x f 7 o 0)) ∧ (o < 8 → (10 * (7 - o) + 2 ≤ (f : Int) → CHG n x o (rdC n x f)) ∧ (10 * (7 - o) + 7 ≤ (f : Int) → CHO n x o (rdC n x f)) ∧ (10 * (7 - o) + 5 ≤ (f : Int) → NOP n x o (rdC n x f))) := by
  intro f
  induction f with
  | zero =>
    intro o ho
    refine ⟨fun w => ?_, fun w => ?_, fun w => ?_, fun w => ?_, fun w => ?_, fun w => ?_, fun _ => ⟨fun w => ?_, fun w => ?_, fun w => ?_⟩⟩ <;> exfalso <;> omega
  | succ f ih =>
    intro o ho
    obtain ⟨i0, i1, i2, i5, i6, i7, i9⟩ := ih o ho
    have up := fun (h : o < 8) => ih (o + 1) (by omega)
    refine ⟨fun w => ?_, fun w => ?_, fun w => ?_, fun w => ?_, fun w => ?_, fun w => ?_, fun h8 => ⟨fun w => ?_, fun w => ?_, fun w => ?_⟩⟩
    · have := lp_num (p := 6) (q := 7) (ρ := 5) (lv := 3) (tp3 := 5) hx (Or.inr ⟨rfl, rfl, rfl, rfl, rfl⟩) (i1 (by omega))
      intro C A m a b c d
      rw [rd_0]; exact this C A m a b c d
    · have := lp_num (p := 8) (q := 9) (ρ := 6) (lv := 4) (tp3 := 7) hx (Or.inl ⟨rfl, rfl, rfl, rfl, rfl⟩) (i2 (by omega))
      intro C A m a b c d
      rw [rd_1]; exact this C A m a b c d
    · have := one_ok (R := rdC n x f) hx (fun h => (up h).1 (by omega)) (fun h => (i9 h).1 (by omega)) (fun h => (i9 h).2.1 (by omega))
      intro C A m a b c d
      rw [rd_2]; exact this C A m a b c d
    · have := lp_tru (p := 43) (q := 43) (ρ := 1) (lv := 0) (tp3 := 1) hx (Or.inr ⟨rfl, rfl, rfl, rfl, rfl⟩) (i6 (by omega))
      intro C A m a b c
      rw [rd_5]; exact this C A m a b c
    · have := lp_tru (p := 42) (q := 42) (ρ := 2) (lv := 1) (tp3 := 3) hx (Or.inl ⟨rfl, rfl, rfl, rfl, rfl⟩) (i7 (by omega))
      intro C A m a b c
      rw [rd_6]; exact this C A m a b c
    · have := ask_ok (R := rdC n x f) hx (i0 (by omega)) (fun h => (i9 h).2.2 (by omega))
      intro C A m a b c
      rw [rd_7]; exact this C A m a b c
    · have := chg_ok (o := o) (R := rdC n x f) hx (fun h => (up h).2.2.1 (by omega))
      intro C A m k a b c d e
      have z := this C A m k a b c d e
      rw [rd_3]
      exact z
    · intro C A m a b c d
      rw [rd_4]
      exact cho_ok (R := rdC n x f) hx (fun h => (up h).2.2.2.1 (by omega)) (fun h => (up h).1 (by omega)) a b c d
    · intro C A m a b c d e
      rw [rd_8]
      exact not_ok (R := rdC n x f) hx (fun h => (up h).2.2.2.2.2.1 (by omega)) a b c d e
