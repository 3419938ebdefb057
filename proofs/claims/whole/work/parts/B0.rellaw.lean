theorem Bad.f {n : Nat} {A B : Me} {f : Int} (h : Bad n A f B) (h0 : 0 ≤ A 429 8) : smI n smF A = (f, B) ∧ smG n smF A := by
  obtain ⟨h1, ⟨h2, h3⟩, j, hj, h⟩ := h
  have := h (smF - (j + 1))
  have e : j + 1 + (smF - (j + 1)) = smF := by
    have : smF = 1000 := rfl
    omega
  rw [e] at this
  exact this
/-- behind a law that is whole -/
def LST (C A C' V : Me) (n : Nat) (x i : Int) : Prop :=
  (TPE C' V n ∧ TE C' V n ∧ (0 ≤ C' 2 8 ∧ C' 2 8 ≤ 10000)) ∧
  (A 429 8 < V 429 8 ∧ A 429 13 ≤ V 429 13 ∧ V 429 13 - A 429 13 ≤ V 429 8 - A 429 8) ∧
  (C x 1 ≤ C' x 1 ∧ C' x 1 - C x 1 ≤ V 429 8 - A 429 8) ∧
  FRC x (C x 1) C C' ∧ FR (lcX A i) V ∧
  SEG (C' (x + 2)) (V 432) (A 429 12 + 97) (C x 1) (C' x 1) (A 429 13) (V 429 13) 3 0
/-- a law, side by side -/
theorem law_ok {C A : Me} {n : Nat} {x i : Int} (hx : 15 ≤ x ∧ x ≤ 39) (h1 : TPE C A n) (h2 : TE C A n) (h3 : 0 ≤ C 2 8 ∧ C 2 8 ≤ 10000) (h4 : A 429 14 = C 2 9) (h5 : 0 ≤ A 429 12 ∧ A 429 12 ≤ 2115) (h6 : 0 ≤ A 429 13 ∧ A 429 13 ≤ A 429 8) (h7 : 0 ≤ C x 1 ∧ C x 1 ≤ A 429 8) : SOK A n i ∧ (((rdC n x 83 0 0 0 C).1 ≠ 0 ∧ lcV A n i = 0 ∧ ∃ V : Me, lcM A n i = up V 432 (i + 2) (V 429 13) ∧ LST C A (rdC n x 83 0 0 0 C).2 V n x i) ∨ ((rdC n x 83 0 0 0 C).1 = 0 ∧ lcV A n i ≠ 0 ∧ (rdC n x 83 0 0 0 C).2 2 1 = lcV A n i ∧ (rdC n x 83 0 0 0 C).2 2 2 = lcM A n i 429 8)) := by
  have xo : ∀ a j : Int, a ≠ 432 → ¬ (a = 429 ∧ (j = 16 ∨ j = 17 ∨ j = 18)) → lcX A i a j = A a j := fun a j q1 q2 => (up_ne (by omega)).trans ((up_ne (by omega)).trans ((up_ne (by omega)).trans (up_ne (by omega))))
  have x16 : lcX A i 429 16 = 0 := (up_ne (by omega)).trans ((up_ne (by omega)).trans (up_eq ⟨rfl, rfl⟩))
  have x17 : lcX A i 429 17 = 0 := (up_ne (by omega)).trans (up_eq ⟨rfl, rfl⟩)
  have x18 : lcX A i 429 18 = 0 := up_eq ⟨rfl, rfl⟩
  have hE : ENT C (lcX A i) n x 0 0 := by
    refine ⟨⟨h1.of ⟨rfl, fun _ => rfl⟩ ⟨xo 429 4 (by decide) (by omega), fun j => xo 433 j (by decide) (by omega)⟩, h2.of (fun _ _ _ => rfl) (fun j q => xo 429 j (by decide) (by omega)) (fun j => xo 433 j (by decide) (by omega)), h3⟩, ?_, ?_, ⟨x16, by decide⟩, ⟨x17, by decide, by decide⟩, ⟨?_, ?_⟩, ?_, x18⟩
    · rw [xo 429 14 (by decide) (by omega)]; exact h4
    · rw [xo 429 12 (by decide) (by omega)]; exact h5
    · rw [xo 429 13 (by decide) (by omega)]; exact h6.1
    · rw [xo 429 13 (by decide) (by omega), xo 429 8 (by decide) (by omega)]; have := h6.2; omega
    · rw [xo 429 8 (by decide) (by omega)]; exact h7
  have op0 : opn (lcX A i) 0 = -1 := if_pos (by show (-1 : Int) < 0; decide)
  have x8 : lcX A i 429 8 = A 429 8 := xo 429 8 (by decide) (by omega)
  have p8 : 0 ≤ lcX A i 429 8 := by rw [x8]; exact h2.2.1.1
  have s := (sim hx (n := n) 83 0 (by decide)).1 (by decide) C (lcX A i) 0 hE (by decide) (Or.inl rfl) (fun _ u => by have := u.1; omega)
  generalize rdC n x 83 0 0 0 C = r at s ⊢
  rcases s with ⟨s1, s2, A3, V, s3, s4⟩ | ⟨s0, f, B, k1, k2, k3, k4⟩
  · have h17 := s4.2.1.2.2.1 (by decide)
    have t3 := s4.1.2.1
    have oo : opn A3 (pil A3) = -1 := s4.2.2.2.2.2.2.2.2.1.1.trans op0
    unfold ENDT at s2
    have bO : bhO A3 (pil A3) = -1 := by
      rw [bw_no t3 (by omega), oo, if_pos (by decide)]
    have bP : bhP A3 (pil A3) = -1 := by
      unfold bhP paO
      rw [oo, if_neg (by decide), if_neg (by decide), if_neg (by decide), if_neg (by decide)]
    have sv : stl A3 1 (pil A3) = V := s4.2.2.2.2.2.2.2.2.2.1 1 (Int.le_refl 1) (by decide)
    have sd : sdA A3 n = (0, V) := (sd_e s4.2.1.1 (by omega) (by omega)).trans ((if_pos (by omega)).trans (by rw [sv]))
    have v8 : V 429 8 = A3 429 8 := s4.2.2.2.2.2.1 429 8 (by decide) (by omega)
    have n3 := s4.1.1.2.2.1
    have tp := t3.2.1
    have b := (Bad.s (s4.gd hE h17) (by decide) sd ⟨by omega, by omega⟩).t s3
    have bf := b.f p8
    have lc : lcV A n i = 0 := by unfold lcV; rw [bf.1]
    have lm : lcM A n i = up V 432 (i + 2) (V 429 13) := by unfold lcM; rw [bf.1]
    refine ⟨⟨bf.2, by rw [bf.1]; show (0 : Int) ≠ -1; decide⟩, Or.inl ⟨s1, lc, V, lm, ?_⟩⟩
    have vo : ∀ j : Int, j = 4 ∨ (7 ≤ j ∧ j ≤ 11) → V 429 j = A3 429 j := fun j q => s4.2.2.2.2.2.1 429 j (by decide) (by omega)
    have v3 : ∀ j : Int, V 433 j = A3 433 j := fun j => s4.2.2.2.2.2.1 433 j (by decide) (by omega)
    have g := s4.2.2.1
    have gc := s4.2.2.2.1
    have v13 := s4.2.2.2.2.2.2.1.2.2
    have fl := s4.2.2.2.2.1.2.2.2
    have seg := s4.2.2.2.2.2.2.2.2.2.2
    rw [xo 429 13 (by decide) (by omega)] at g fl seg
    rw [xo 429 12 (by decide) (by omega)] at seg
    rw [x8] at g gc
    exact ⟨⟨s4.1.1.of ⟨rfl, fun _ => rfl⟩ ⟨vo 4 (by omega), v3⟩, t3.of (fun _ _ _ => rfl) vo v3, s4.1.2.2⟩, ⟨by omega, by omega, by omega⟩, ⟨gc.1, by omega⟩, s4.2.2.2.2.1.1, s4.2.2.2.2.1.2.2, seg⟩
  · have bf := k1.f p8
    have lc : lcV A n i = f := by unfold lcV; rw [bf.1]
    have lm : lcM A n i = up B 432 (i + 2) (B 429 13) := by unfold lcM; rw [bf.1]
    refine ⟨⟨bf.2, by rw [bf.1]; exact k1.1⟩, Or.inr ⟨s0, by rw [lc]; exact k2, by rw [lc]; exact k3, ?_⟩⟩
    rw [lm, up_ne (by omega)]; exact k4
