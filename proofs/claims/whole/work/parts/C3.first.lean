def Mz : Me := fun _ _ => 0
/-- the memory, once all is made -/
def M1 : Me := cpy (up (up (up (up (up (X10M Mz 0) 429 5 (-1)) 429 6 (-1)) 430 11 167) 430 2 (-1)) 430 13 5) 430 0 431 0 2142
theorem stM_o {M : Me} {b a j : Int} : ∀ {i : Nat}, ¬ (b + 2 ≤ a ∧ a < b + 2 + 5 * (i : Int) ∧ j = 1) → stM M b i a j = M a j := by
  intro i
  induction i with
  | zero => intro _; rfl
  | succ i ih =>
    intro h
    unfold stM
    rw [up_ne (by omega)]
    exact ih (by omega)
theorem spM_o {M : Me} {b a j : Int} (h : ¬ (a = b ∧ (j = 0 ∨ j = 2)) ∧ ¬ ((a = b + 1 ∨ (b + 8 ≤ a ∧ a < b + 158)) ∧ j = 1)) : spM M b a j = M a j := by
  unfold spM
  rw [stM_o (by omega), up_ne (by omega), up_ne (by omega), up_ne (by omega)]
theorem x10_o {a j : Int} (h : ¬ (a = 2 ∧ (j = 1 ∨ j = 2)) ∧ ¬ ((a = 49 ∨ a = 239) ∧ (j = 0 ∨ j = 2)) ∧ ¬ ((a = 50 ∨ a = 240 ∨ (57 ≤ a ∧ a < 207) ∨ (247 ≤ a ∧ a < 397)) ∧ j = 1)) : X10M Mz 0 a j = 0 := by
  unfold X10M
  rw [spM_o (by omega), spM_o (by omega), up_ne (by omega), up_ne (by omega)]
  rfl
/-- the reference's rows as they begin -/
def iniA (j : Int) : Int := if j = 2 then -1 else if j = 11 then 167 else if j = 13 then 5 else 0
theorem m1_A {a j : Int} (h : a = 430 ∨ (a = 431 ∧ 0 ≤ j ∧ j < 2142)) : M1 a j = iniA j := by
  have e : ∀ j : Int, (up (up (up (up (up (X10M Mz 0) 429 5 (-1)) 429 6 (-1)) 430 11 167) 430 2 (-1)) 430 13 5) 430 j = iniA j := fun j => by
    unfold iniA
    by_cases q2 : j = 2
    · rw [if_pos q2, up_ne (by omega), q2]; exact up_eq ⟨rfl, rfl⟩
    · rw [if_neg q2]
      by_cases q11 : j = 11
      · rw [if_pos q11, up_ne (by omega), up_ne (by omega), q11]; exact up_eq ⟨rfl, rfl⟩
      · rw [if_neg q11]
        by_cases q13 : j = 13
        · rw [if_pos q13, q13]; exact up_eq ⟨rfl, rfl⟩
        · rw [if_neg q13, up_ne (by omega), up_ne (by omega), up_ne (by omega), up_ne (by omega), up_ne (by omega)]
          exact x10_o (by omega)
  unfold M1
  rcases h with h | ⟨h, h0, h1⟩
  · rw [cpy_out (by omega), h]; exact e j
  · rw [cpy_in ⟨h, by omega⟩, show (0 : Int) + (j - 0) = j by omega]; exact e j
theorem m1_o {a j : Int} (h : a ≠ 430 ∧ ¬ (a = 431 ∧ 0 ≤ j ∧ j < 2142) ∧ ¬ (a = 429 ∧ (j = 5 ∨ j = 6))) : M1 a j = X10M Mz 0 a j := by
  unfold M1
  rw [cpy_out (by omega), up_ne (by omega), up_ne (by omega), up_ne (by omega), up_ne (by omega), up_ne (by omega)]
theorem m1_0 {a j : Int} (h : (a ≠ 430 ∧ a ≠ 431 ∧ ¬ (a = 429 ∧ (j = 5 ∨ j = 6))) ∧ ¬ (a = 2 ∧ (j = 1 ∨ j = 2)) ∧ ¬ ((a = 49 ∨ a = 239) ∧ (j = 0 ∨ j = 2)) ∧ ¬ ((a = 50 ∨ a = 240 ∨ (57 ≤ a ∧ a < 207) ∨ (247 ≤ a ∧ a < 397)) ∧ j = 1)) : M1 a j = 0 := (m1_o (by omega)).trans (x10_o (by omega))
theorem m1_429 : M1 429 5 = -1 ∧ M1 429 6 = -1 := by
  unfold M1
  refine ⟨?_, ?_⟩
  · rw [cpy_out (by omega), up_ne (by omega), up_ne (by omega), up_ne (by omega), up_ne (by omega), up_eq ⟨rfl, rfl⟩]
  · rw [cpy_out (by omega), up_ne (by omega), up_ne (by omega), up_ne (by omega), up_eq ⟨rfl, rfl⟩]
theorem m1_2 : M1 2 1 = -1 ∧ M1 2 2 = -1 := by
  refine ⟨(m1_o (by omega)).trans ?_, (m1_o (by omega)).trans ?_⟩ <;> unfold X10M
  · rw [spM_o (by omega), spM_o (by omega), up_ne (by omega)]; exact up_eq ⟨rfl, rfl⟩
  · rw [spM_o (by omega), spM_o (by omega)]; exact up_eq ⟨rfl, rfl⟩
theorem spM_v {M : Me} {b : Int} : spM M b b 0 = 5 ∧ spM M b b 2 = -1 ∧ spM M b (b + 1) 1 = 167 := by
  unfold spM
  refine ⟨?_, ?_, ?_⟩
  · rw [stM_o (by omega), up_ne (by omega), up_ne (by omega)]; exact up_eq ⟨rfl, rfl⟩
  · rw [stM_o (by omega), up_ne (by omega)]; exact up_eq ⟨rfl, rfl⟩
  · rw [stM_o (by omega)]; exact up_eq ⟨rfl, rfl⟩
theorem m1_sp {s : Int} (h : s = 49 ∨ s = 239) : M1 s 0 = 5 ∧ M1 s 2 = -1 ∧ M1 (s + 1) 1 = 167 := by
  have v1 := spM_v (M := spM (up (up Mz (0 + 2) 1 (-1)) (0 + 2) 2 (-1)) (0 + 49)) (b := 0 + 239)
  have v2 := spM_v (M := up (up Mz (0 + 2) 1 (-1)) (0 + 2) 2 (-1)) (b := 0 + 49)
  rcases h with h | h <;> subst h
  · refine ⟨(m1_o (by omega)).trans ?_, (m1_o (by omega)).trans ?_, (m1_o (by omega)).trans ?_⟩ <;> unfold X10M <;> rw [spM_o (by omega)]
    · exact v2.1
    · exact v2.2.1
    · exact v2.2.2
  · refine ⟨(m1_o (by omega)).trans ?_, (m1_o (by omega)).trans ?_, (m1_o (by omega)).trans ?_⟩ <;> unfold X10M
    · exact v1.1
    · exact v1.2.1
    · exact v1.2.2
theorem ini_b {j : Int} (h0 : 0 ≤ j) (h1 : j < 2142) : lo j ≤ iniA j ∧ iniA j ≤ hi j := by
  unfold lo iniA hi hiH hiC hiS
  (repeat' split) <;> omega
theorem rlS_1 {s r : Int} (h : (s = 49 ∧ r = 430) ∨ (s = 239 ∧ r = 431)) : rlS M1 M1 s r := by
  obtain ⟨v0, v2, v1⟩ := m1_sp (s := s) (by omega)
  have A : ∀ j : Int, 0 ≤ j → j < 2142 → M1 r j = iniA j := fun j a b => m1_A (by omega)
  have A0 : ∀ j : Int, 0 ≤ j → j < 15 → j ≠ 2 → j ≠ 11 → j ≠ 13 → M1 r j = 0 := fun j a b c d e => by
    rw [A j a (by omega)]; unfold iniA; rw [if_neg c, if_neg d, if_neg e]
  have e0 := A0 0 (by decide) (by decide) (by decide) (by decide) (by decide)
  have e1 := A0 1 (by decide) (by decide) (by decide) (by decide) (by decide)
  have e3 := A0 3 (by decide) (by decide) (by decide) (by decide) (by decide)
  have e4 := A0 4 (by decide) (by decide) (by decide) (by decide) (by decide)
  have e5 := A0 5 (by decide) (by decide) (by decide) (by decide) (by decide)
  have e6 := A0 6 (by decide) (by decide) (by decide) (by decide) (by decide)
  have e7 := A0 7 (by decide) (by decide) (by decide) (by decide) (by decide)
  have e8 := A0 8 (by decide) (by decide) (by decide) (by decide) (by decide)
  have e9 := A0 9 (by decide) (by decide) (by decide) (by decide) (by decide)
  have e10 := A0 10 (by decide) (by decide) (by decide) (by decide) (by decide)
  have e12 := A0 12 (by decide) (by decide) (by decide) (by decide) (by decide)
  have e14 := A0 14 (by decide) (by decide) (by decide) (by decide) (by decide)
  have z : ∀ a j : Int, s ≤ a → a ≤ s + 188 → (j ≠ 1 ∨ a = s + 5 ∨ a = s + 6) → ¬ (a = s ∧ (j = 0 ∨ j = 2)) → M1 a j = 0 := fun a j w1 w2 w3 w4 => m1_0 (by omega)
  refine ⟨⟨?_, ?_, ?_⟩, ⟨⟨?_, ?_, ?_, ?_, ?_⟩, fun p p0 p1 => ?_, fun c c0 c1 => ?_, fun i i0 i1 => ?_⟩, ⟨?_, ?_, fun u u0 u1 => ?_⟩, fun p p0 p1 => ?_, fun c c0 c1 => ?_, ⟨?_, fun i i0 i1 => ?_⟩, ⟨?_, fun i i0 i1 => ?_⟩, ⟨?_, fun i i0 i1 => ?_⟩, ⟨?_, fun i i0 i1 => ?_⟩, ⟨?_, fun i i0 i1 => ?_⟩, ⟨?_, fun i i0 i1 => ?_⟩, fun j j0 j1 => ?_⟩
  · rw [v0, A 13 (by decide) (by decide)]; rfl
  · rw [e1]; exact m1_0 (by omega)
  · rw [v2, A 2 (by decide) (by decide)]; rfl
  · rw [e10]; exact z _ _ (by omega) (by omega) (by omega) (by omega)
  · rw [v1, A 11 (by decide) (by decide)]; rfl
  · rw [e0]; exact z _ _ (by omega) (by omega) (by omega) (by omega)
  · rw [e14]; exact z _ _ (by omega) (by omega) (by omega) (by omega)
  · rw [e12]; exact z _ _ (by omega) (by omega) (by omega) (by omega)
  · rw [e0] at p1; omega
  · rw [e14] at c1; omega
  · rw [A _ (by omega) (by omega)]
    have e : iniA (2112 + i) = 0 := by unfold iniA; rw [if_neg (by omega), if_neg (by omega), if_neg (by omega)]
    rw [e]
    exact z _ _ (by omega) (by omega) (by omega) (by omega)
  · rw [e3]; exact z _ _ (by omega) (by omega) (by omega) (by omega)
  · rw [z (s + 6) 1 (by omega) (by omega) (by omega) (by omega)]; decide
  · rw [e3] at u1; omega
  · rw [e0] at p1; omega
  · rw [e14] at c1; omega
  · rw [e4]; exact z _ _ (by omega) (by omega) (by omega) (by omega)
  · rw [e4] at i1; omega
  · rw [e5]; exact z _ _ (by omega) (by omega) (by omega) (by omega)
  · rw [e5] at i1; omega
  · rw [e6]; exact z _ _ (by omega) (by omega) (by omega) (by omega)
  · rw [e6] at i1; omega
  · rw [e7]; exact z _ _ (by omega) (by omega) (by omega) (by omega)
  · rw [e7] at i1; omega
  · rw [e8]; exact z _ _ (by omega) (by omega) (by omega) (by omega)
  · rw [e8] at i1; omega
  · rw [e9]; exact z _ _ (by omega) (by omega) (by omega) (by omega)
  · rw [e9] at i1; omega
  · rw [m1_0 (by omega)]; decide
/-- all holds as it begins -/
theorem inv_1 : INV M1 := by
  have A : ∀ j : Int, 0 ≤ j → j < 2142 → M1 430 j = iniA j := fun j a b => m1_A (by omega)
  have B : ∀ j : Int, 0 ≤ j → j < 2142 → M1 431 j = iniA j := fun j a b => m1_A (by omega)
  have a1 : M1 430 1 = 0 := A 1 (by decide) (by decide)
  have a2 : M1 430 2 = -1 := A 2 (by decide) (by decide)
  have a14 : M1 430 14 = 0 := A 14 (by decide) (by decide)
  have b1 : M1 431 1 = 0 := B 1 (by decide) (by decide)
  have b2 : M1 431 2 = -1 := B 2 (by decide) (by decide)
  have b14 : M1 431 14 = 0 := B 14 (by decide) (by decide)
  have e4 : M1 429 4 = 0 := m1_0 (by omega)
  refine ⟨⟨rlS_1 (Or.inl ⟨rfl, rfl⟩), rlS_1 (Or.inr ⟨rfl, rfl⟩), fun t t0 t1 => ?_, ⟨⟨?_, ?_, ?_⟩, ?_, ?_, fun j j0 j1 => ?_⟩, ⟨fun t t0 t1 => ?_, fun j j0 j1 => ?_⟩, ⟨fun j j0 j1 => ?_, ?_, fun t t0 t1 => ?_⟩, fun j j0 j1 => ?_, ?_, ?_⟩, fun c c0 c1 => ?_, fun c c0 c1 => ?_⟩
  · rw [a1] at t1; omega
  · rw [e4]; exact m1_0 (by omega)
  · rw [e4]; decide
  · rw [e4]; decide
  · exact m1_2.1.trans m1_429.1.symm
  · exact m1_2.2.trans m1_429.2.symm
  · rw [e4] at j1; omega
  · rw [m1_0 (by omega), m1_0 (by omega)]; decide
  · rw [m1_0 (by omega)]; decide
  · rw [A j j0 j1]; exact ini_b j0 j1
  · rw [a1, a2]; decide
  · rw [a1] at t1; omega
  · rw [B j j0 j1]; exact ini_b j0 j1
  · rw [a1, b1]; decide
  · rw [b1, b2]; decide
  · rw [a14] at c1; omega
  · rw [b14] at c1; omega
