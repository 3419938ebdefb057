/-- the tape and the texts, both sides: as a text is begun -/
theorem tx_go {M f : Me} {n : Nat} {t : Int} (hD : rlD M f) (hn : f 429 4 = (n : Int)) (ht : 0 ≤ t ∧ t ≤ 3) (h1 : f 430 1 = t) : TXI (rd0 M (15 + 8 * t) n) (rtX f n) n (15 + 8 * t) (705 * t) := by
  obtain ⟨⟨d0, d1, d2⟩, -, -, d3⟩ := hD
  have tp : TPE M f n := ⟨d0.trans hn, hn, by omega, fun j a b => d3 j a (by omega)⟩
  have co : ∀ a j : Int, ¬ (a = 15 + 8 * t + 1) → ¬ (a = 15 + 8 * t ∧ (j = 0 ∨ j = 1)) → ¬ (a = 2 ∧ (j = 1 ∨ j = 2 ∨ j = 5)) → (up (up (up (emC M (15 + 8 * t)) 2 1 0) 2 2 (-1)) 2 5 0) a j = M a j := fun a j q1 q2 q3 => by
    rw [up_ne (by omega), up_ne (by omega), up_ne (by omega), emC_o (by omega)]
  have ao : ∀ a j : Int, ¬ (a = 429 ∧ (j = 12 ∨ j = 13 ∨ j = 19 ∨ j = 7)) → ¬ (a = 432 ∧ j = 705 * f 430 1) → (up (up (up (up (up f 429 12 (705 * f 430 1)) 432 (705 * f 430 1) 0) 429 13 0) 429 19 0) 429 7 0) a j = f a j := fun a j q1 q2 => by
    rw [up_ne (by omega), up_ne (by omega), up_ne (by omega), up_ne (by omega), up_ne (by omega)]
  have tp2 : TPE (up (up (up (emC M (15 + 8 * t)) 2 1 0) 2 2 (-1)) 2 5 0) (up (up (up (up (up f 429 12 (705 * f 430 1)) 432 (705 * f 430 1) 0) 429 13 0) 429 19 0) 429 7 0) n := by
    obtain ⟨p0, p1, p2, p3⟩ := tp
    refine ⟨(co 2 0 (by omega) (by omega) (by omega)).trans p0, (ao 429 4 (by omega) (by omega)).trans p1, p2, fun j a b => ?_⟩
    rw [co 3 j (by omega) (by omega) (by omega), ao 433 j (by omega) (by omega)]
    exact p3 j a b
  have t1 := te_go tp2 ((up_eq ⟨rfl, rfl⟩).trans (up_eq ⟨rfl, rfl⟩).symm) (by rw [up_eq ⟨rfl, rfl⟩]; omega)
  have e12 : rtX f n 429 12 = 705 * t := by
    unfold rtX
    rw [nxT_o (by omega), up_ne (by omega), up_ne (by omega), up_ne (by omega), up_ne (by omega), up_eq ⟨rfl, rfl⟩, h1]
  have e13 : rtX f n 429 13 = 0 := by
    unfold rtX
    rw [nxT_o (by omega), up_ne (by omega), up_ne (by omega), up_eq ⟨rfl, rfl⟩]
  have e19 : rtX f n 429 19 = 0 := by
    unfold rtX
    rw [nxT_o (by omega), up_ne (by omega), up_eq ⟨rfl, rfl⟩]
  have ez : rtX f n 432 (705 * t) = 0 := by
    unfold rtX
    rw [nxT_o (by omega), up_ne (by omega), up_ne (by omega), up_ne (by omega), up_eq ⟨rfl, by rw [h1]⟩]
  have e8 := t1.2.1.1
  have g : ∀ a j : Int, ¬ (a = 2 ∧ 5 ≤ j ∧ j ≤ 8) → rd0 M (15 + 8 * t) n a j = (up (up (up (emC M (15 + 8 * t)) 2 1 0) 2 2 (-1)) 2 5 0) a j := fun a j q => goC_o q
  have em : ∀ l : Int, 0 ≤ l → l < 3 → rd0 M (15 + 8 * t) n (15 + 8 * t + 1) l = -1 := fun l a b => by
    rw [g _ _ (by omega), up_ne (by omega), up_ne (by omega), up_ne (by omega)]
    unfold emC
    exact rd_rX ⟨rfl, by omega⟩ rfl
  refine ⟨⟨⟨(g 2 0 (by omega)).trans tp2.1, (nxT_o (by omega)).trans tp2.2.1, tp2.2.2.1, fun j a b => ?_⟩, t1, tv_go⟩, ⟨e12, ?_, ?_⟩, ⟨?_, ?_, ?_⟩, ⟨?_, ?_⟩, ⟨?_, ?_⟩, fun l l0 l1 => ⟨?_, Or.inl ⟨em l l0 l1, fun i a b => ?_⟩⟩, fun i i0 i1 => ?_⟩
  · rw [g 3 j (by omega), show rtX f n 433 j = _ from nxT_o (by omega)]
    exact tp2.2.2.2 j a b
  · rw [g _ _ (by omega), up_ne (by omega), up_ne (by omega), up_eq ⟨rfl, rfl⟩]
  · rw [g _ _ (by omega), up_ne (by omega), up_eq ⟨rfl, rfl⟩]
  · rw [ez, g _ _ (by omega), up_ne (by omega), up_ne (by omega), up_ne (by omega)]
    unfold emC
    exact (row1_o (by omega)).trans ((up_ne (by omega)).trans (up_eq ⟨rfl, rfl⟩))
  · rw [ez]; decide
  · rw [ez]; decide
  · rw [e13]; decide
  · rw [e13]; exact e8
  · rw [g _ _ (by omega), up_ne (by omega), up_ne (by omega), up_ne (by omega)]
    unfold emC
    rw [row1_o (by omega), up_eq ⟨rfl, rfl⟩]; decide
  · rw [g _ _ (by omega), up_ne (by omega), up_ne (by omega), up_ne (by omega)]
    unfold emC
    rw [row1_o (by omega), up_eq ⟨rfl, rfl⟩]; exact e8
  · rw [em l l0 l1, e19]
    refine ⟨fun w => absurd rfl w, fun w => ?_⟩
    rcases (show l = 0 ∨ l = 1 ∨ l = 2 by omega) with q | q | q <;> subst q <;> exact absurd w (by decide)
  · rw [ez] at b; omega
  · rw [ez] at i1; omega
/-- the text is read, side by side -/
theorem tx_rs {M f : Me} {n : Nat} {t : Int} (hD : rlD M f) (hn : f 429 4 = (n : Int)) (ht : 0 ≤ t ∧ t ≤ 3) (h1 : f 430 1 = t) : TOK f n ∧ (((readC M (15 + 8 * t) n).1 ≠ 0 ∧ (rtR f n).1 = 0 ∧ TXI (readC M (15 + 8 * t) n).2 (rtR f n).2 n (15 + 8 * t) (705 * t)) ∨ DF (rtR f n).2 (readC M (15 + 8 * t) n) (rtR f n).1) := by
  have h := tx_go hD hn ht h1
  obtain ⟨r1, r2, r3⟩ := rs_ok (by omega) (by omega) 25 rtF _ _ h (by have := h.2.2.1.2.1; omega) (by decide)
  exact ⟨⟨r1, r2⟩, r3.imp (fun w => ⟨w.1, w.2.1, w.2.2.1⟩) id⟩
