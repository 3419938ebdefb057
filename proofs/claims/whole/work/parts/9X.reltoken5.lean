theorem w3L_n {a b c : Nat} (ha : a < 256) (hb : b < 256) (hc : c < 256) : w3L (a : Int) (b : Int) (c : Int) = (((a * 256 + b) * 256 + c : Nat) : Int) := by
  unfold w3L w2L
  rw [shl64_8 (by omega), or64_add (by omega) hb, shl64_8 (by omega), or64_add (by omega) hc]
theorem w4L_n {a b c d : Nat} (ha : a < 256) (hb : b < 256) (hc : c < 256) (hd : d < 256) : w4L (a : Int) (b : Int) (c : Int) (d : Int) = ((((a * 256 + b) * 256 + c) * 256 + d : Nat) : Int) := by
  unfold w4L
  rw [w3L_n ha hb hc, shl64_8 (by omega), or64_add (by omega) hd]
theorem w3_eq {a b c : Int} {x y z : Nat} (ha : 0 ≤ a ∧ a < 256) (hb : 0 ≤ b ∧ b < 256) (hc : 0 ≤ c ∧ c < 256) (hx : x < 256) (hy : y < 256) (hz : z < 256) : w3L a b c = w3L (x : Int) (y : Int) (z : Int) ↔ a = x ∧ b = y ∧ c = z := by
  obtain ⟨a, rfl⟩ : ∃ n : Nat, a = (n : Int) := ⟨a.toNat, by omega⟩
  obtain ⟨b, rfl⟩ : ∃ n : Nat, b = (n : Int) := ⟨b.toNat, by omega⟩
  obtain ⟨c, rfl⟩ : ∃ n : Nat, c = (n : Int) := ⟨c.toNat, by omega⟩
  rw [w3L_n (by omega) (by omega) (by omega), w3L_n hx hy hz]
  omega
theorem w4_eq {a b c d : Int} {x y z w : Nat} (ha : 0 ≤ a ∧ a < 256) (hb : 0 ≤ b ∧ b < 256) (hc : 0 ≤ c ∧ c < 256) (hd : 0 ≤ d ∧ d < 256) (hx : x < 256) (hy : y < 256) (hz : z < 256) (hw : w < 256) : w4L a b c d = w4L (x : Int) (y : Int) (z : Int) (w : Int) ↔ a = x ∧ b = y ∧ c = z ∧ d = w := by
  obtain ⟨a, rfl⟩ : ∃ n : Nat, a = (n : Int) := ⟨a.toNat, by omega⟩
  obtain ⟨b, rfl⟩ : ∃ n : Nat, b = (n : Int) := ⟨b.toNat, by omega⟩
  obtain ⟨c, rfl⟩ : ∃ n : Nat, c = (n : Int) := ⟨c.toNat, by omega⟩
  obtain ⟨d, rfl⟩ : ∃ n : Nat, d = (n : Int) := ⟨d.toNat, by omega⟩
  rw [w4L_n (by omega) (by omega) (by omega) (by omega), w4L_n hx hy hz hw]
  omega
theorem ls_len {B : Int → Int} : ∀ (k : Nat) (s : Int), (ls B s k).length = k := by
  intro k
  induction k with
  | zero => intro s; rfl
  | succ k ih => intro s; show (ls B (s + 1) k).length + 1 = k + 1; rw [ih]
/-- a long word, on both sides -/
theorem te_l {C A : Me} {n : Nat} (h : TE C A n) {u v : Int} {k : Nat} {i : Nat} (hi : i < 28) (hk : (wrds.getD i []).length = k) (hw : ∀ s : Int, (∀ j : Int, s ≤ j → j < s + k → 0 ≤ bta A j ∧ bta A j < 256) → ((w4L (bta A s) (bta A (s + 1)) (bta A (s + 2)) (bta A (s + 3)) = u ∧ (if (k : Int) = 7 then w3L (bta A (s + 4)) (bta A (s + 5)) (bta A (s + 6)) else w4L (bta A (s + 4)) (bta A (s + 5)) (bta A (s + 6)) (bta A (s + 7))) = v) ↔ ls (bta A) s k = wrds.getD i [])) : lgO A u v (k : Int) ≠ 0 ↔ C 2 7 = 16 + (i : Int) := by
  obtain ⟨-, -, h3, -⟩ := h
  have lg : lgO A u v (k : Int) ≠ 0 ↔ A 429 9 = 2 ∧ A 429 7 - A 429 8 = k ∧ w4L (bta A (A 429 8)) (bta A (A 429 8 + 1)) (bta A (A 429 8 + 2)) (bta A (A 429 8 + 3)) = u ∧ (if (k : Int) = 7 then w3L (bta A (A 429 8 + 4)) (bta A (A 429 8 + 5)) (bta A (A 429 8 + 6)) else w4L (bta A (A 429 8 + 4)) (bta A (A 429 8 + 5)) (bta A (A 429 8 + 6)) (bta A (A 429 8 + 7))) = v := by
    unfold lgO
    exact ⟨fun w => Classical.byContradiction fun q => w (if_neg q), fun q => by rw [if_pos q]; decide⟩
  rw [lg]
  rcases h3 with ⟨-, q2, q3⟩ | ⟨q1, q2⟩ | ⟨q1, q2, q3, q4⟩
  · exact ⟨fun w => absurd (q3.symm.trans w.1) rsO_b, fun w => by omega⟩
  · exact ⟨fun w => by omega, fun w => by omega⟩
  · rw [q4, kW_i hi]
    have mem : ∀ (m : Nat) (s j : Int), s ≤ j → j < s + m → bta A j ∈ ls (bta A) s m := by
      intro m
      induction m with
      | zero => intro s j a c; omega
      | succ m ih =>
        intro s j a c
        by_cases e : j = s
        · subst e; exact List.mem_cons_self ..
        · exact List.mem_cons_of_mem _ (ih (s + 1) j (by omega) (by omega))
    constructor
    · rintro ⟨-, w1, w2, w3⟩
      have e : (A 429 7 - A 429 8).toNat = k := by omega
      have := (hw (A 429 8) (fun j a c => by have := q2 (bta A j) (mem _ _ j a (by rw [e]; exact c)); omega)).mp ⟨w2, w3⟩
      show ls (bta A) (A 429 8) (A 429 7 - A 429 8).toNat = _
      rw [e]; exact this
    · intro w
      have e0 := ls_len (B := bta A) (A 429 7 - A 429 8).toNat (A 429 8)
      have w : ls (bta A) (A 429 8) (A 429 7 - A 429 8).toNat = wrds.getD i [] := w
      rw [w, hk] at e0
      rw [← e0] at w
      have k0 : k ≠ 0 ∨ k = 0 := by omega
      have := (hw (A 429 8) (fun j a c => by have := q2 (bta A j) (mem _ _ j a (by rw [← e0]; exact c)); omega)).mpr w
      refine ⟨q1, ?_, this.1, this.2⟩
      rcases k0 with k0 | k0
      · omega
      · exfalso
        rw [k0] at hk
        have z : (List.range 28).all (fun i => decide ((wrds.getD i []).length ≠ 0)) = true := by decide +kernel
        have := List.all_eq_true.mp z i (List.mem_range.mpr hi)
        exact absurd hk (of_decide_eq_true this)
theorem te_presses {C A : Me} {n : Nat} (h : TE C A n) : lgO A (w4L 112 114 101 115) (w3L 115 101 115) 7 ≠ 0 ↔ C 2 7 = 16 := te_l h (k := 7) (i := 0) (by decide) (by decide +kernel) (fun s hb => by
  have e : ls (bta A) s 7 = [bta A s, bta A (s + 1), bta A (s + 2), bta A (s + 3), bta A (s + 4), bta A (s + 5), bta A (s + 6)] := by
    show [bta A s, bta A (s + 1), bta A (s + 1 + 1), bta A (s + 1 + 1 + 1), bta A (s + 1 + 1 + 1 + 1), bta A (s + 1 + 1 + 1 + 1 + 1), bta A (s + 1 + 1 + 1 + 1 + 1 + 1)] = _
    simp only [Int.add_assoc]; rfl
  rw [e, if_pos (by decide)]
  have r4 := w4_eq (a := bta A s) (b := bta A (s + 1)) (c := bta A (s + 2)) (d := bta A (s + 3)) (hb s (by omega) (by omega)) (hb (s + 1) (by omega) (by omega)) (hb (s + 2) (by omega) (by omega)) (hb (s + 3) (by omega) (by omega)) (x := 112) (y := 114) (z := 101) (w := 115) (by decide) (by decide) (by decide) (by decide)
  have r3 := w3_eq (hb (s + 4) (by omega) (by omega)) (hb (s + 5) (by omega) (by omega)) (hb (s + 6) (by omega) (by omega)) (x := 115) (y := 101) (z := 115) (by decide) (by decide) (by decide)
  constructor
  · rintro ⟨a, c⟩
    have a := r4.mp a
    have c := r3.mp c
    rw [a.1, a.2.1, a.2.2.1, a.2.2.2, c.1, c.2.1, c.2.2]; rfl
  · intro w
    have w : [bta A s, bta A (s + 1), bta A (s + 2), bta A (s + 3), bta A (s + 4), bta A (s + 5), bta A (s + 6)] = [(112 : Int), (114 : Int), (101 : Int), (115 : Int), (115 : Int), (101 : Int), (115 : Int)] := w
    simp only [List.cons.injEq] at w
    exact ⟨r4.mpr ⟨w.1, w.2.1, w.2.2.1, w.2.2.2.1⟩, r3.mpr ⟨w.2.2.2.2.1, w.2.2.2.2.2.1, w.2.2.2.2.2.2.1⟩⟩)
theorem te_scorches {C A : Me} {n : Nat} (h : TE C A n) : lgO A (w4L 115 99 111 114) (w4L 99 104 101 115) 8 ≠ 0 ↔ C 2 7 = 17 := te_l h (k := 8) (i := 1) (by decide) (by decide +kernel) (fun s hb => by
  have e : ls (bta A) s 8 = [bta A s, bta A (s + 1), bta A (s + 2), bta A (s + 3), bta A (s + 4), bta A (s + 5), bta A (s + 6), bta A (s + 7)] := by
    show [bta A s, bta A (s + 1), bta A (s + 1 + 1), bta A (s + 1 + 1 + 1), bta A (s + 1 + 1 + 1 + 1), bta A (s + 1 + 1 + 1 + 1 + 1), bta A (s + 1 + 1 + 1 + 1 + 1 + 1), bta A (s + 1 + 1 + 1 + 1 + 1 + 1 + 1)] = _
    simp only [Int.add_assoc]; rfl
  rw [e, if_neg (by decide)]
  have r4 := w4_eq (a := bta A s) (b := bta A (s + 1)) (c := bta A (s + 2)) (d := bta A (s + 3)) (hb s (by omega) (by omega)) (hb (s + 1) (by omega) (by omega)) (hb (s + 2) (by omega) (by omega)) (hb (s + 3) (by omega) (by omega)) (x := 115) (y := 99) (z := 111) (w := 114) (by decide) (by decide) (by decide) (by decide)
  have r3 := w4_eq (hb (s + 4) (by omega) (by omega)) (hb (s + 5) (by omega) (by omega)) (hb (s + 6) (by omega) (by omega)) (hb (s + 7) (by omega) (by omega)) (x := 99) (y := 104) (z := 101) (w := 115) (by decide) (by decide) (by decide) (by decide)
  constructor
  · rintro ⟨a, c⟩
    have a := r4.mp a
    have c := r3.mp c
    rw [a.1, a.2.1, a.2.2.1, a.2.2.2, c.1, c.2.1, c.2.2.1, c.2.2.2]; rfl
  · intro w
    have w : [bta A s, bta A (s + 1), bta A (s + 2), bta A (s + 3), bta A (s + 4), bta A (s + 5), bta A (s + 6), bta A (s + 7)] = [(115 : Int), (99 : Int), (111 : Int), (114 : Int), (99 : Int), (104 : Int), (101 : Int), (115 : Int)] := w
    simp only [List.cons.injEq] at w
    exact ⟨r4.mpr ⟨w.1, w.2.1, w.2.2.1, w.2.2.2.1⟩, r3.mpr ⟨w.2.2.2.2.1, w.2.2.2.2.2.1, w.2.2.2.2.2.2.1, w.2.2.2.2.2.2.2.1⟩⟩)
theorem te_pattern {C A : Me} {n : Nat} (h : TE C A n) : lgO A (w4L 112 97 116 116) (w3L 101 114 110) 7 ≠ 0 ↔ C 2 7 = 23 := te_l h (k := 7) (i := 7) (by decide) (by decide +kernel) (fun s hb => by
  have e : ls (bta A) s 7 = [bta A s, bta A (s + 1), bta A (s + 2), bta A (s + 3), bta A (s + 4), bta A (s + 5), bta A (s + 6)] := by
    show [bta A s, bta A (s + 1), bta A (s + 1 + 1), bta A (s + 1 + 1 + 1), bta A (s + 1 + 1 + 1 + 1), bta A (s + 1 + 1 + 1 + 1 + 1), bta A (s + 1 + 1 + 1 + 1 + 1 + 1)] = _
    simp only [Int.add_assoc]; rfl
  rw [e, if_pos (by decide)]
  have r4 := w4_eq (a := bta A s) (b := bta A (s + 1)) (c := bta A (s + 2)) (d := bta A (s + 3)) (hb s (by omega) (by omega)) (hb (s + 1) (by omega) (by omega)) (hb (s + 2) (by omega) (by omega)) (hb (s + 3) (by omega) (by omega)) (x := 112) (y := 97) (z := 116) (w := 116) (by decide) (by decide) (by decide) (by decide)
  have r3 := w3_eq (hb (s + 4) (by omega) (by omega)) (hb (s + 5) (by omega) (by omega)) (hb (s + 6) (by omega) (by omega)) (x := 101) (y := 114) (z := 110) (by decide) (by decide) (by decide)
  constructor
  · rintro ⟨a, c⟩
    have a := r4.mp a
    have c := r3.mp c
    rw [a.1, a.2.1, a.2.2.1, a.2.2.2, c.1, c.2.1, c.2.2]; rfl
  · intro w
    have w : [bta A s, bta A (s + 1), bta A (s + 2), bta A (s + 3), bta A (s + 4), bta A (s + 5), bta A (s + 6)] = [(112 : Int), (97 : Int), (116 : Int), (116 : Int), (101 : Int), (114 : Int), (110 : Int)] := w
    simp only [List.cons.injEq] at w
    exact ⟨r4.mpr ⟨w.1, w.2.1, w.2.2.1, w.2.2.2.1⟩, r3.mpr ⟨w.2.2.2.2.1, w.2.2.2.2.2.1, w.2.2.2.2.2.2.1⟩⟩)
