def REQ (C A : Me) (n : Nat) (x o : Int) (m : Nat) (ρ tr bd ρe : Int) (r : RV) : Prop := (r.1 ≠ 0 ∧ ENDT ρe (r.2 2 7) ∧ ∃ A' V : Me, Go n A A' ∧ PST C A r.2 A' V n x o m ρ tr bd) ∨ FAIL A n r
/-- a part that is a number, on both sides -/
def NUM (n : Nat) (x o lv tp ρ : Int) (g : Me → RV) : Prop := ∀ (C A : Me) (m : Nat), ENT C A n x o m → (m : Int) ≤ 6 * o + lv → (m = 0 ∨ rnk (A 434 ((m : Int) - 1)) ≤ tp) → (C 2 7 = 41 → ¬ ahP A m) → REQ C A n x o m ρ 0 (5 * o + lv) ρ (g C)
/-- a part that is a truth -/
def TRU (n : Nat) (x o lv tp ρ : Int) (g : Me → RV) : Prop := ∀ (C A : Me) (m : Nat), ENT C A n x o m → (m : Int) ≤ 6 * o + lv → (1 ≤ m ∧ opn A m = 41 ∧ rnk (A 434 ((m : Int) - 1)) ≤ tp) → REQ C A n x o m ρ 1 (5 * o + lv) ρ (g C)
theorem adC_o {C : Me} {x k v a j : Int} (hx : 15 ≤ x) (h : a < 15) : adC C x k v a j = C a j := by
  unfold adC
  split
  · exact (up_ne (by omega)).trans (up_ne (by omega))
  · rfl
theorem FAIL.ad {A : Me} {n : Nat} {r : RV} {x k v : Int} (hx : 15 ≤ x) (h : FAIL A n r) : FAIL A n (r.1, adC r.2 x k v) := h.of h.1 (adC_o hx (by decide)) (adC_o hx (by decide))
theorem bw_num {A' C' : Me} {n : Nat} (t : TE C' A' n) {k : Int} (hk : C' 2 7 = k) (h : 6 ≤ k ∧ k ≤ 9) {m : Nat} : bhO A' m = k := by
  have sg := te_sg t
  rw [hk] at sg
  unfold bhO bwO
  rcases (show k = 6 ∨ k = 7 ∨ k = 8 ∨ k = 9 by omega) with q | q | q | q <;> subst q
  · rw [if_pos (sg.2.2.2.2.2.1.mpr rfl)]
  · rw [if_neg (fun w => by have := sg.2.2.2.2.2.1.mp w; omega), if_pos (sg.2.2.2.2.2.2.1.mpr rfl)]
  · rw [if_neg (fun w => by have := sg.2.2.2.2.2.1.mp w; omega), if_neg (fun w => by have := sg.2.2.2.2.2.2.1.mp w; omega), if_pos (sg.2.2.2.2.2.2.2.1.mpr rfl)]
  · rw [if_neg (fun w => by have := sg.2.2.2.2.2.1.mp w; omega), if_neg (fun w => by have := sg.2.2.2.2.2.2.1.mp w; omega), if_neg (fun w => by have := sg.2.2.2.2.2.2.2.1.mp w; omega), if_pos (sg.2.2.2.2.2.2.2.2.1.mpr rfl)]
/-- no sign of numbers at hand -/
theorem bw_no {A' C' : Me} {n : Nat} (t : TE C' A' n) (h : ¬ (6 ≤ C' 2 7 ∧ C' 2 7 ≤ 9)) {m : Nat} : bhO A' m = if opn A' m ≠ 41 then -1 else if icS A' m = 0 then (if 10 ≤ C' 2 7 ∧ C' 2 7 ≤ 15 then C' 2 7 else -1) else if C' 2 7 = 42 then 21 else if C' 2 7 = 43 then 22 else -1 := by
  have sg := te_sg t
  have za := te_and t
  have zo := te_or t
  unfold bhO bwO
  rw [if_neg (fun w => by have := sg.2.2.2.2.2.1.mp w; omega), if_neg (fun w => by have := sg.2.2.2.2.2.2.1.mp w; omega), if_neg (fun w => by have := sg.2.2.2.2.2.2.2.1.mp w; omega), if_neg (fun w => by have := sg.2.2.2.2.2.2.2.2.1.mp w; omega), sg.2.2.2.2.2.2.2.2.2]
  by_cases q : opn A' m = 41
  · have q' : ¬ (opn A' m ≠ 41) := fun w => w q
    rw [if_neg q', if_neg q']
    by_cases q2 : icS A' m = 0
    · rw [if_pos q2, if_pos q2]
    · rw [if_neg q2, if_neg q2]
      by_cases q3 : C' 2 7 = 42
      · rw [if_pos (za.mpr q3), if_pos q3]
      · rw [if_neg (fun w => q3 (za.mp w)), if_neg q3]
        by_cases q4 : C' 2 7 = 43
        · rw [if_pos (zo.mpr q4), if_pos q4]
        · rw [if_neg (fun w => q4 (zo.mp w)), if_neg q4]
  · rw [if_pos q, if_pos q]
/-- a row of numbers with signs between, on both sides -/
theorem lp_num {n : Nat} {x o ρ lv p q tp3 : Int} {g : Me → RV} (hx : 15 ≤ x ∧ x ≤ 39) (hρ : (ρ = 6 ∧ lv = 4 ∧ p = 8 ∧ q = 9 ∧ tp3 = 7) ∨ (ρ = 5 ∧ lv = 3 ∧ p = 6 ∧ q = 7 ∧ tp3 = 5)) (hg : NUM n x o (lv + 1) tp3 (ρ + 1) g) : NUM n x o lv (ρ - 1) ρ (fun M => lpC n x g p q 300 (g M)) := by
  intro C0 A0 m hE hm htop hah
  have ho := hE.2.2.2.2.1
  have loop : ∀ (c : Nat) (s : RV), REQ C0 A0 n x o m ρ 0 (5 * o + lv) (ρ + 1) s → (s.1 ≠ 0 → 300 ≤ (c : Int) + s.2 2 6) → REQ C0 A0 n x o m ρ 0 (5 * o + lv) ρ (lpC n x g p q c s) := by
    intro c
    induction c with
    | zero =>
      intro s hs hc
      rcases hs with ⟨s1, s2, A', V, s3, s4⟩ | s0
      · refine Or.inl ⟨s1, ?_, A', V, s3, s4⟩
        have t := s4.1.2.1
        have n3 := s4.1.1.2.2.1
        have := hc s1
        have z : s.2 2 7 = 0 := Classical.byContradiction fun w => by have := t.2.1.2.2.2.1 w; have := t.2.1.2.2.1; have := t.1.2; omega
        show ENDT ρ (s.2 2 7)
        rw [z]
        unfold ENDT; omega
      · exact Or.inr s0
    | succ c ih =>
      intro s hs hc
      by_cases w : s.1 ≠ 0 ∧ (s.2 2 7 = p ∨ s.2 2 7 = q)
      · rw [lpC_t w]
        rcases hs with ⟨s1, s2, A', V, s3, s4⟩ | s0
        · have t := s4.1.2.1
          have h17 := s4.2.1.2.2.1 (by omega)
          have h0 : s.2 2 7 ≠ 0 := by omega
          have bo : bhO A' (pil A') = s.2 2 7 := bw_num t rfl (by omega)
          have rk : rnk (s.2 2 7) = ρ := by unfold rnk; omega
          have hR : bhR A' (pil A') = ρ := by unfold bhR; rw [bo, rk, if_neg (by omega)]
          have it := lp_it hx hE s4 h17 (op := (s.2 2 7)) (R := ρ) (by omega) bo hR (by omega) (by omega) h0 (by omega)
          obtain ⟨i1, i2, i3, i4, i5, i6, i7⟩ := it
          have inn := hg (goC s.2 n) (psM V (s.2 2 7) n) (m + 1) i2 (by omega) (Or.inr (by rw [show ((m + 1 : Nat) : Int) - 1 = (m : Int) by omega, i3, rk]; omega)) (fun _ u => by
            have := u.2
            rw [show ((m + 1 : Nat) : Int) - 1 = (m : Int) by omega, i3, rk] at this
            omega)
          rcases inn with ⟨r1, r2, A3, V3, r3, r4⟩ | r0
          · have h17b := r4.o17 ho.2 (by omega) (fun z => Or.inr (by rw [show ((m + 1 : Nat) : Int) - 1 = (m : Int) by omega, i3, rk]; omega))
            have fin := lp_fin (trf := 0) (ρf := ρ) hx hE s4 (tok := s.2 2 7) ⟨i3, i4, i5, i6, i7⟩ (by rw [show 5 * o + lv + 1 = 5 * o + (lv + 1) by omega]; exact r4) h17b (by omega) (by rw [rk]; omega) (by rw [rk]; omega) (by
              rw [r4.2.2.2.2.2.2.2.2.1.2]
              rw [if_neg (by decide), if_neg (by decide), show icS (psM V (s.2 2 7) n) (m + 1) = icS (psM V (s.2 2 7) n) m from if_pos (by rw [i3, rk]; omega)]
              exact icS_c _ (fun j hj => i4 j (by omega) (by omega))) (fun K T p9 c0 c1 c2 w0 w1 w2 a b d e => SEG.two (by omega) a b (by omega) d e)
            refine ih ((g (goC s.2 n)).1, adC (g (goC s.2 n)).2 x (s.2 2 7) 0) (Or.inl ⟨r1, ?_, A3, _, (s3.t i1).t r3, fin⟩) (fun _ => ?_)
            · show ENDT (ρ + 1) (adC (g (goC s.2 n)).2 x (s.2 2 7) 0 2 7)
              rw [adC_o hx.1 (by decide)]
              exact r2
            · have a := hc s1
              have b := r4.1.2.1.1.2
              have e := t.1.2
              have f := r4.2.2.1.1
              show 300 ≤ (c : Int) + adC (g (goC s.2 n)).2 x (s.2 2 7) 0 2 6
              rw [adC_o hx.1 (by decide), b]
              omega
          · have z : FAIL A0 n ((g (goC s.2 n)).1, adC (g (goC s.2 n)).2 x (s.2 2 7) 0) := (r0.t (s3.t i1)).ad hx.1
            rw [lpC_f (s := ((g (goC s.2 n)).1, adC (g (goC s.2 n)).2 x (s.2 2 7) 0)) (fun u => u.1 r0.1)]
            exact Or.inr z
        · exact absurd s0.1 w.1
      · rw [lpC_f w]
        rcases hs with ⟨s1, s2, A', V, s3, s4⟩ | s0
        · refine Or.inl ⟨s1, ?_, A', V, s3, s4⟩
          have w2 : ¬ (s.2 2 7 = p ∨ s.2 2 7 = q) := fun z => w ⟨s1, z⟩
          unfold ENDT at s2 ⊢
          omega
        · exact Or.inr s0
  have first := hg C0 A0 m hE (by omega) (by omega) hah
  refine loop 300 (g C0) ?_ (fun s1 => ?_)
  · rcases first with ⟨s1, s2, A', V, s3, s4⟩ | s0
    · have h17 := s4.o17 ho.2 (by omega) (fun z => by omega)
      exact Or.inl ⟨s1, s2, A', V, s3, s4.w (by omega) (by omega) (by omega) h17⟩
    · exact Or.inr s0
  · rcases first with ⟨-, -, A', V, -, s4⟩ | s0
    · have a := s4.1.2.1
      have b := a.2.1.1
      rw [a.1.2]; omega
    · exact absurd s0.1 s1
/-- a row of truths with signs between, on both sides -/
theorem lp_tru {n : Nat} {x o ρ lv p q tp3 : Int} {g : Me → RV} (hx : 15 ≤ x ∧ x ≤ 39) (hρ : (ρ = 2 ∧ lv = 1 ∧ p = 42 ∧ q = 42 ∧ tp3 = 3) ∨ (ρ = 1 ∧ lv = 0 ∧ p = 43 ∧ q = 43 ∧ tp3 = 1)) (hg : TRU n x o (lv + 1) tp3 (ρ + 1) g) : TRU n x o lv (ρ - 1) ρ (fun M => lpC n x g p q 300 (g M)) := by
  intro C0 A0 m hE hm htop
  have ho := hE.2.2.2.2.1
  have loop : ∀ (c : Nat) (s : RV), REQ C0 A0 n x o m ρ 1 (5 * o + lv) (ρ + 1) s → (s.1 ≠ 0 → 300 ≤ (c : Int) + s.2 2 6) → REQ C0 A0 n x o m ρ 1 (5 * o + lv) ρ (lpC n x g p q c s) := by
    intro c
    induction c with
    | zero =>
      intro s hs hc
      rcases hs with ⟨s1, s2, A', V, s3, s4⟩ | s0
      · refine Or.inl ⟨s1, ?_, A', V, s3, s4⟩
        have t := s4.1.2.1
        have n3 := s4.1.1.2.2.1
        have := hc s1
        have z : s.2 2 7 = 0 := Classical.byContradiction fun w => by have := t.2.1.2.2.2.1 w; have := t.2.1.2.2.1; have := t.1.2; omega
        show ENDT ρ (s.2 2 7)
        rw [z]
        unfold ENDT; omega
      · exact Or.inr s0
    | succ c ih =>
      intro s hs hc
      by_cases w : s.1 ≠ 0 ∧ (s.2 2 7 = p ∨ s.2 2 7 = q)
      · rw [lpC_t w]
        rcases hs with ⟨s1, s2, A', V, s3, s4⟩ | s0
        · have t := s4.1.2.1
          have h17 := s4.2.1.2.2.1 (by omega)
          have h0 : s.2 2 7 ≠ 0 := by omega
          have s9 := s4.2.2.2.2.2.2.2.2.1
          have bo : bhO A' (pil A') = (if s.2 2 7 = 42 then 21 else 22) := by
            rw [bw_no t (by omega), s9.1, if_neg (fun z => z htop.2.1), s9.2, if_pos rfl, if_neg (by decide)]
            by_cases z : s.2 2 7 = 42
            · rw [if_pos z, if_pos z]
            · rw [if_neg z, if_neg z, if_pos (by omega)]
          have rk : rnk (if s.2 2 7 = 42 then 21 else 22) = ρ := by 
              by_cases z : s.2 2 7 = 42
              · rw [if_pos z, show rnk 21 = 2 from rfl]; omega
              · rw [if_neg z, show rnk 22 = 1 from rfl]; omega
          have hR : bhR A' (pil A') = ρ := by unfold bhR; rw [bo, rk, if_neg (by omega)]
          have it := lp_it hx hE s4 h17 (op := (if s.2 2 7 = 42 then 21 else 22)) (R := ρ) (by omega) bo hR (by omega) (by omega) h0 (by omega)
          obtain ⟨i1, i2, i3, i4, i5, i6, i7⟩ := it
          have inn := hg (goC s.2 n) (psM V (if s.2 2 7 = 42 then 21 else 22) n) (m + 1) i2 (by omega) ⟨by omega, by
            rw [opn_1 (by rw [i3]; split <;> decide), opn_c (M := A0) (fun j a b => i4 j a b)]
            exact htop.2.1, by rw [show ((m + 1 : Nat) : Int) - 1 = (m : Int) by omega, i3, rk]; omega⟩
          rcases inn with ⟨r1, r2, A3, V3, r3, r4⟩ | r0
          · have h17b := r4.o17 ho.2 (by omega) (fun z => Or.inr (by rw [show ((m + 1 : Nat) : Int) - 1 = (m : Int) by omega, i3, rk]; omega))
            have fin := lp_fin (trf := 1) (ρf := ρ) hx hE s4 (tok := s.2 2 7) ⟨i3, i4, i5, i6, i7⟩ (by rw [show 5 * o + lv + 1 = 5 * o + (lv + 1) by omega]; exact r4) h17b (by omega) (by rw [rk]; omega) (by rw [rk]; omega) (by
              rw [r4.2.2.2.2.2.2.2.2.1.2]
              rw [if_pos rfl]; rfl) (fun K T p9 c0 c1 c2 w0 w1 w2 a b d e => SEG.joi (by omega) a b (by omega) d e)
            refine ih ((g (goC s.2 n)).1, adC (g (goC s.2 n)).2 x (s.2 2 7) 0) (Or.inl ⟨r1, ?_, A3, _, (s3.t i1).t r3, fin⟩) (fun _ => ?_)
            · show ENDT (ρ + 1) (adC (g (goC s.2 n)).2 x (s.2 2 7) 0 2 7)
              rw [adC_o hx.1 (by decide)]
              exact r2
            · have a := hc s1
              have b := r4.1.2.1.1.2
              have e := t.1.2
              have f := r4.2.2.1.1
              show 300 ≤ (c : Int) + adC (g (goC s.2 n)).2 x (s.2 2 7) 0 2 6
              rw [adC_o hx.1 (by decide), b]
              omega
          · have z : FAIL A0 n ((g (goC s.2 n)).1, adC (g (goC s.2 n)).2 x (s.2 2 7) 0) := (r0.t (s3.t i1)).ad hx.1
            rw [lpC_f (s := ((g (goC s.2 n)).1, adC (g (goC s.2 n)).2 x (s.2 2 7) 0)) (fun u => u.1 r0.1)]
            exact Or.inr z
        · exact absurd s0.1 w.1
      · rw [lpC_f w]
        rcases hs with ⟨s1, s2, A', V, s3, s4⟩ | s0
        · refine Or.inl ⟨s1, ?_, A', V, s3, s4⟩
          have w2 : ¬ (s.2 2 7 = p ∨ s.2 2 7 = q) := fun z => w ⟨s1, z⟩
          unfold ENDT at s2 ⊢
          omega
        · exact Or.inr s0
  have first := hg C0 A0 m hE (by omega) ⟨htop.1, htop.2.1, by omega⟩
  refine loop 300 (g C0) ?_ (fun s1 => ?_)
  · rcases first with ⟨s1, s2, A', V, s3, s4⟩ | s0
    · have h17 := s4.o17 ho.2 (by omega) (fun z => by omega)
      exact Or.inl ⟨s1, s2, A', V, s3, s4.w (by omega) (by omega) (by omega) h17⟩
    · exact Or.inr s0
  · rcases first with ⟨-, -, A', V, -, s4⟩ | s0
    · have a := s4.1.2.1
      have b := a.2.1.1
      rw [a.1.2]; omega
    · exact absurd s0.1 s1
