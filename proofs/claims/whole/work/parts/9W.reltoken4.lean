theorem kW_all : (List.range 28).all (fun i => decide (kW (wrds.getD i []) = 16 + (i : Int)) && decide (i = 0 ∨ i = 1 ∨ i = 7 ∨ bnF 0 (wrds.getD i []) < 72057594037927936) && (wrds.getD i []).all (fun b => decide (1 ≤ b ∧ b < 256))) = true := by decide +kernel
theorem kW_i {l : List Int} {i : Nat} (hi : i < 28) : kW l = 16 + (i : Int) ↔ l = wrds.getD i [] := by
  have a := List.all_eq_true.mp kW_all i (List.mem_range.mpr hi)
  simp only [Bool.and_eq_true, decide_eq_true_eq] at a
  constructor
  · intro h
    rcases kW_b (l := l) with q | ⟨-, -, q⟩
    · omega
    · rw [h, show ((16 : Int) + (i : Int) - 16).toNat = i by omega] at q
      rw [List.getD_eq_getElem?_getD, q]; rfl
  · rintro rfl; exact a.1.1
theorem wr_by {i : Nat} (hi : i < 28) : byL (wrds.getD i []) := by
  have a := List.all_eq_true.mp kW_all i (List.mem_range.mpr hi)
  simp only [Bool.and_eq_true, List.all_eq_true, decide_eq_true_eq] at a
  exact fun b hb => a.2 b hb
theorem rsO_b {k : Int} : rsO k ≠ 2 := by unfold rsO; omega
/-- a short word, on both sides -/
theorem te_i {C A : Me} {n : Nat} (h : TE C A n) {i : Nat} (hi : i < 28) (h7 : bnF 0 (wrds.getD i []) < 72057594037927936) {w : Int} (hw : w = cdW (wrds.getD i [])) : (A 429 9 = 2 ∧ A 429 11 = w) ↔ C 2 7 = 16 + (i : Int) := by
  subst hw
  obtain ⟨-, -, h3, -⟩ := h
  rcases h3 with ⟨-, q2, q3⟩ | ⟨q1, q2⟩ | ⟨q1, q2, q3, q4⟩
  · exact ⟨fun w => absurd (q3.symm.trans w.1) rsO_b, fun w => by omega⟩
  · exact ⟨fun w => by omega, fun w => by omega⟩
  · rw [q3, q4, kW_i hi, cd_eq q2 (wr_by hi) h7]
    exact ⟨fun w => w.2, fun w => ⟨q1, w⟩⟩
theorem te_price {C A : Me} {n : Nat} (h : TE C A n) : (A 429 9 = 2 ∧ A 429 11 = w5L 112 114 105 99 101) ↔ C 2 7 = 18 := te_i h (i := 2) (by decide) (by decide +kernel) (by decide +kernel)
theorem te_person {C A : Me} {n : Nat} (h : TE C A n) : (A 429 9 = 2 ∧ A 429 11 = w6L 112 101 114 115 111 110) ↔ C 2 7 = 19 := te_i h (i := 3) (by decide) (by decide +kernel) (by decide +kernel)
theorem te_crease {C A : Me} {n : Nat} (h : TE C A n) : (A 429 9 = 2 ∧ A 429 11 = w6L 99 114 101 97 115 101) ↔ C 2 7 = 20 := te_i h (i := 4) (by decide) (by decide +kernel) (by decide +kernel)
theorem te_tie {C A : Me} {n : Nat} (h : TE C A n) : (A 429 9 = 2 ∧ A 429 11 = w3L 116 105 101) ↔ C 2 7 = 21 := te_i h (i := 5) (by decide) (by decide +kernel) (by decide +kernel)
theorem te_press {C A : Me} {n : Nat} (h : TE C A n) : (A 429 9 = 2 ∧ A 429 11 = w5L 112 114 101 115 115) ↔ C 2 7 = 22 := te_i h (i := 6) (by decide) (by decide +kernel) (by decide +kernel)
theorem te_damp {C A : Me} {n : Nat} (h : TE C A n) : (A 429 9 = 2 ∧ A 429 11 = w4L 100 97 109 112) ↔ C 2 7 = 24 := te_i h (i := 8) (by decide) (by decide +kernel) (by decide +kernel)
theorem te_heat {C A : Me} {n : Nat} (h : TE C A n) : (A 429 9 = 2 ∧ A 429 11 = w4L 104 101 97 116) ↔ C 2 7 = 25 := te_i h (i := 9) (by decide) (by decide +kernel) (by decide +kernel)
theorem te_hour {C A : Me} {n : Nat} (h : TE C A n) : (A 429 9 = 2 ∧ A 429 11 = w4L 104 111 117 114) ↔ C 2 7 = 26 := te_i h (i := 10) (by decide) (by decide +kernel) (by decide +kernel)
theorem te_who {C A : Me} {n : Nat} (h : TE C A n) : (A 429 9 = 2 ∧ A 429 11 = w3L 119 104 111) ↔ C 2 7 = 27 := te_i h (i := 11) (by decide) (by decide +kernel) (by decide +kernel)
theorem te_skin {C A : Me} {n : Nat} (h : TE C A n) : (A 429 9 = 2 ∧ A 429 11 = w4L 115 107 105 110) ↔ C 2 7 = 28 := te_i h (i := 12) (by decide) (by decide +kernel) (by decide +kernel)
theorem te_year {C A : Me} {n : Nat} (h : TE C A n) : (A 429 9 = 2 ∧ A 429 11 = w4L 121 101 97 114) ↔ C 2 7 = 29 := te_i h (i := 13) (by decide) (by decide +kernel) (by decide +kernel)
theorem te_depth {C A : Me} {n : Nat} (h : TE C A n) : (A 429 9 = 2 ∧ A 429 11 = w5L 100 101 112 116 104) ↔ C 2 7 = 30 := te_i h (i := 14) (by decide) (by decide +kernel) (by decide +kernel)
theorem te_worth {C A : Me} {n : Nat} (h : TE C A n) : (A 429 9 = 2 ∧ A 429 11 = w5L 119 111 114 116 104) ↔ C 2 7 = 31 := te_i h (i := 15) (by decide) (by decide +kernel) (by decide +kernel)
theorem te_coins {C A : Me} {n : Nat} (h : TE C A n) : (A 429 9 = 2 ∧ A 429 11 = w5L 99 111 105 110 115) ↔ C 2 7 = 32 := te_i h (i := 16) (by decide) (by decide +kernel) (by decide +kernel)
theorem te_ties {C A : Me} {n : Nat} (h : TE C A n) : (A 429 9 = 2 ∧ A 429 11 = w4L 116 105 101 115) ↔ C 2 7 = 33 := te_i h (i := 17) (by decide) (by decide +kernel) (by decide +kernel)
theorem te_to {C A : Me} {n : Nat} (h : TE C A n) : (A 429 9 = 2 ∧ A 429 11 = w2L 116 111) ↔ C 2 7 = 34 := te_i h (i := 18) (by decide) (by decide +kernel) (by decide +kernel)
theorem te_turned {C A : Me} {n : Nat} (h : TE C A n) : (A 429 9 = 2 ∧ A 429 11 = w6L 116 117 114 110 101 100) ↔ C 2 7 = 35 := te_i h (i := 19) (by decide) (by decide +kernel) (by decide +kernel)
theorem te_deep {C A : Me} {n : Nat} (h : TE C A n) : (A 429 9 = 2 ∧ A 429 11 = w4L 100 101 101 112) ↔ C 2 7 = 36 := te_i h (i := 20) (by decide) (by decide +kernel) (by decide +kernel)
theorem te_if {C A : Me} {n : Nat} (h : TE C A n) : (A 429 9 = 2 ∧ A 429 11 = w2L 105 102) ↔ C 2 7 = 37 := te_i h (i := 21) (by decide) (by decide +kernel) (by decide +kernel)
theorem te_then {C A : Me} {n : Nat} (h : TE C A n) : (A 429 9 = 2 ∧ A 429 11 = w4L 116 104 101 110) ↔ C 2 7 = 38 := te_i h (i := 22) (by decide) (by decide +kernel) (by decide +kernel)
theorem te_else {C A : Me} {n : Nat} (h : TE C A n) : (A 429 9 = 2 ∧ A 429 11 = w4L 101 108 115 101) ↔ C 2 7 = 39 := te_i h (i := 23) (by decide) (by decide +kernel) (by decide +kernel)
theorem te_end {C A : Me} {n : Nat} (h : TE C A n) : (A 429 9 = 2 ∧ A 429 11 = w3L 101 110 100) ↔ C 2 7 = 40 := te_i h (i := 24) (by decide) (by decide +kernel) (by decide +kernel)
theorem te_not {C A : Me} {n : Nat} (h : TE C A n) : (A 429 9 = 2 ∧ A 429 11 = w3L 110 111 116) ↔ C 2 7 = 41 := te_i h (i := 25) (by decide) (by decide +kernel) (by decide +kernel)
theorem te_and {C A : Me} {n : Nat} (h : TE C A n) : (A 429 9 = 2 ∧ A 429 11 = w3L 97 110 100) ↔ C 2 7 = 42 := te_i h (i := 26) (by decide) (by decide +kernel) (by decide +kernel)
theorem te_or {C A : Me} {n : Nat} (h : TE C A n) : (A 429 9 = 2 ∧ A 429 11 = w2L 111 114) ↔ C 2 7 = 43 := te_i h (i := 27) (by decide) (by decide +kernel) (by decide +kernel)
/-- a sign, on both sides -/
theorem te_sg {C A : Me} {n : Nat} (h : TE C A n) : (A 429 9 = 0 ↔ C 2 7 = 0) ∧ (A 429 9 = 1 ↔ C 2 7 = 2) ∧ (A 429 9 = 40 ↔ C 2 7 = 3) ∧ (A 429 9 = 41 ↔ C 2 7 = 4) ∧ (A 429 9 = 59 ↔ C 2 7 = 5) ∧ (A 429 9 = 43 ↔ C 2 7 = 6) ∧ (A 429 9 = 45 ↔ C 2 7 = 7) ∧ (A 429 9 = 42 ↔ C 2 7 = 8) ∧ (A 429 9 = 47 ↔ C 2 7 = 9) ∧ cmO (A 429 9) = (if 10 ≤ C 2 7 ∧ C 2 7 ≤ 15 then C 2 7 else -1) := by
  obtain ⟨-, -, h3, -⟩ := h
  generalize C 2 7 = k at h3 ⊢
  rcases h3 with ⟨q1, q2, q3⟩ | ⟨q1, q2⟩ | ⟨q1, q2, q3, q4⟩
  · have z : k = 0 ∨ k = 2 ∨ k = 3 ∨ k = 4 ∨ k = 5 ∨ k = 6 ∨ k = 7 ∨ k = 8 ∨ k = 9 ∨ k = 10 ∨ k = 11 ∨ k = 12 ∨ k = 13 ∨ k = 14 ∨ k = 15 := by omega
    rw [q3]
    rcases z with z | z | z | z | z | z | z | z | z | z | z | z | z | z | z <;> subst z <;> decide
  · have e : cmO (A 429 9) = -1 := by rcases q2 with q2 | q2 <;> rw [q2] <;> decide
    rw [e, if_neg (by omega)]
    omega
  · have e : cmO (A 429 9) = -1 := by rw [q1]; decide
    have b := kW_b (l := leA A)
    rw [e, if_neg (by omega)]
    omega
