/-- the names of a law's leaves: the class's number to the reference's -/
def sgm (k : Int) : Int := if k = 25 then 1 else if k = 26 then 0 else k - 25
/-- the head: HEAT, how many texts, BY -/
def rlH (C A : Me) (s r : Int) : Prop := C s 0 = A r 13 ∧ C s 1 = A r 1 ∧ C s 2 = A r 2
/-- the moment that is -/
def rlN (C A : Me) (q r : Int) : Prop := (C q 0 = A r 10 ∧ C q 1 = A r 11 ∧ C q 2 = A r 0 ∧ C q 3 = A r 14 ∧ C q 4 = A r 12) ∧ (∀ p : Int, 0 ≤ p → p < A r 0 → C (q + 1) p = A r (99 + 3 * p)) ∧ (∀ c : Int, 0 ≤ c → c < A r 14 → C (q + 2) c = A r (15 + 7 * c + 1) ∧ C (q + 3) c = A r (15 + 7 * c)) ∧ (∀ i : Int, 0 ≤ i → i < 30 → C (q + 4) i = A r (2112 + i))
/-- a moment that is kept -/
def rlQ (C A : Me) (q r x : Int) : Prop := (C q 0 = A r (x + 2) ∧ C q 1 = A r (x + 3) ∧ C q 2 = A r (x + 1) ∧ C q 3 = A r x ∧ C q 4 = A r (x + 4)) ∧ (∀ p : Int, 0 ≤ p → p < A r (x + 1) → C (q + 1) p = A r (x + 29 + p)) ∧ (∀ c : Int, 0 ≤ c → c < A r x → C (q + 2) c = A r (x + 5 + 2 * c + 1) ∧ C (q + 3) c = A r (x + 5 + 2 * c)) ∧ (∀ i : Int, 0 ≤ i → i < 30 → C (q + 4) i = A r (x + 34 + i))
/-- the steps -/
def rlT (C A : Me) (s r : Int) : Prop := C (s + 6) 0 = A r 3 ∧ (0 ≤ C (s + 6) 1 ∧ C (s + 6) 1 < 30) ∧ ∀ u : Int, 0 ≤ u → u < A r 3 → rlQ C A (s + 8 + 5 * ((C (s + 6) 1 + u) % 30)) r (192 + 64 * u) ∧ A r (192 + 64 * u) ≤ A r 14 ∧ A r (192 + 64 * u + 1) ≤ A r 0
/-- what is told of the persons -/
def rlP (C A : Me) (s r : Int) : Prop := ∀ p : Int, 0 ≤ p → p < A r 0 → C (s + 158) p = A r (99 + 3 * p + 1) ∧ C (s + 159) p = A r (99 + 3 * p + 2)
/-- what hangs on what, by the reference -/
def tiR (A : Me) (r : Int) : Int → Int := fun c => A r (15 + 7 * c + 6)
/-- what is told of the creases -/
def rlK (C A : Me) (s r : Int) : Prop := ∀ c : Int, 0 ≤ c → c < A r 14 → (C (s + 160) c = A r (15 + 7 * c + 2) ∧ A r (15 + 7 * c + 2) < A r 0) ∧ C (s + 161) c = A r (15 + 7 * c + 3) ∧ C (s + 162) c = A r (15 + 7 * c + 4) ∧ C (s + 163) c = A r (15 + 7 * c + 5) ∧ C (s + 164) c = A r (15 + 7 * c + 6) ∧ C (s + 165) c = hangT (tiR A r) (A r 14).toNat c ∧ ∀ e : Nat, A r 14 ≤ (e : Int) → tb (A r (15 + 7 * c + 6)) e = false
/-- the lists -/
def rlL (C A : Me) (s r : Int) : Prop := (C (s + 166) 0 = A r 4 ∧ ∀ i : Int, 0 ≤ i → i < A r 4 → (C (s + 167) i = A r (114 + 2 * i) ∧ A r (114 + 2 * i) < A r 14) ∧ C (s + 168) i = A r (114 + 2 * i + 1)) ∧
  (C (s + 170) 0 = A r 5 ∧ ∀ i : Int, 0 ≤ i → i < A r 5 → C (s + 171) i = A r (130 + i)) ∧
  (C (s + 174) 0 = A r 6 ∧ ∀ i : Int, 0 ≤ i → i < A r 6 → C (s + 175) i = A r (138 + 3 * i) ∧ C (s + 176) i = A r (138 + 3 * i + 1) ∧ C (s + 177) i = A r (138 + 3 * i + 2)) ∧
  (C (s + 178) 0 = A r 7 ∧ ∀ i : Int, 0 ≤ i → i < A r 7 → C (s + 179) i = A r (162 + i) ∧ 1 ≤ A r (162 + i)) ∧
  (C (s + 182) 0 = A r 8 ∧ ∀ i : Int, 0 ≤ i → i < A r 8 → C (s + 183) i = A r (168 + i)) ∧
  (C (s + 186) 0 = A r 9 ∧ ∀ i : Int, 0 ≤ i → i < A r 9 → (C (s + 187) i = A r (176 + 2 * i) ∧ A r (176 + 2 * i) < A r 14) ∧ C (s + 188) i = A r (176 + 2 * i + 1)) ∧
  (∀ j : Int, 0 ≤ j → j < 8 → 0 ≤ C (s + 177) j ∧ C (s + 177) j ≤ 999)
/-- the spa, or its image -/
def rlS (C A : Me) (s r : Int) : Prop := rlH C A s r ∧ rlN C A (s + 1) r ∧ rlT C A s r ∧ rlP C A s r ∧ rlK C A s r ∧ rlL C A s r
/-- the class's value of a law, the reference's -/
def cVal (dp nm : Int → Int) (C : Me) (q l : Int) (X : Int → Int) : Int := lsV (akR dp nm (C (q + 2)) (C q 1) 300 (X, 0, C (q + 1) l)).1 (akR dp nm (C (q + 2)) (C q 1) 300 (X, 0, C (q + 1) l)).2.1
def aVal (dp nm : Int → Int) (T : Int → Int) (t i : Int) (X Y : Int → Int) : Int := (rnS dp nm T (705 * t + 97) (T (705 * t + 1 + 4 * i + 1)) (X, Y, 0, 0) (T (705 * t + 1 + 4 * i + 2) - T (705 * t + 1 + 4 * i + 1)).toNat).1 0
/-- a law of a text -/
def rlW (C : Me) (T : Int → Int) (t l : Int) : Prop := (C (15 + 8 * t + 1) l = -1 ∧ lwI T t l (T (705 * t)).toNat < 0) ∨ (0 ≤ C (15 + 8 * t + 1) l ∧ 0 ≤ lwI T t l (T (705 * t)).toNat ∧ ∀ dp nm nk X Y Z : Int → Int, (∀ v, 0 ≤ dp v ∧ dp v ≤ 9) → (∀ k, 0 ≤ k → k < 9 → -9 ≤ nm k ∧ nm k ≤ 9999) → (∀ k, 25 ≤ k → k ≤ 33 → nk k = nm (sgm k)) → cVal dp nk C (15 + 8 * t) l Z = aVal dp nm T t (lwI T t l (T (705 * t)).toNat) X Y)
/-- the class's number of a clause's noun -/
def kdm (k : Int) : Int := if k = 6 then 25 else if k = 7 then 22 else if k = 8 then 23 else if k = 9 then 24 else if k = 10 then 26 else k + 16
/-- a text -/
def rlX (C : Me) (T : Int → Int) (t : Int) : Prop := C (15 + 8 * t) 0 = T (705 * t) ∧ (∀ i : Int, 0 ≤ i → i < T (705 * t) → C (15 + 8 * t + 3) i = kdm (T (705 * t + 1 + 4 * i)) ∧ (3 ≤ T (705 * t + 1 + 4 * i) → C (15 + 8 * t + 5) i = T (705 * t + 1 + 4 * i + 1)) ∧ ((3 ≤ T (705 * t + 1 + 4 * i) ∧ T (705 * t + 1 + 4 * i) ≤ 5) → C (15 + 8 * t + 6) i = T (705 * t + 1 + 4 * i + 2)) ∧ (T (705 * t + 1 + 4 * i) = 4 → C (15 + 8 * t + 7) i = T (705 * t + 1 + 4 * i + 3)) ∧ (T (705 * t + 1 + 4 * i) = 9 → 1 ≤ T (705 * t + 1 + 4 * i + 1) ∧ T (705 * t + 1 + 4 * i + 1) ≤ 9)) ∧ ∀ l : Int, 0 ≤ l → l < 3 → rlW C T t l
def rlXs (C A : Me) : Prop := ∀ t : Int, 0 ≤ t → t < A 430 1 → rlX C (A 432) t
/-- the reader -/
def rlD (C A : Me) : Prop := (C 2 0 = A 429 4 ∧ 0 ≤ A 429 4 ∧ A 429 4 ≤ 300) ∧ C 2 1 = A 429 5 ∧ C 2 2 = A 429 6 ∧ ∀ j : Int, 0 ≤ j → j < A 429 4 → C 3 j = A 433 j ∧ 0 ≤ A 433 j ∧ A 433 j ≤ 255
/-- what the class keeps to by itself -/
def rlF (C : Me) : Prop := (∀ t : Int, 0 ≤ t → t < 4 → (0 ≤ C (15 + 8 * t) 1 ∧ C (15 + 8 * t) 1 ≤ 300) ∧ (0 ≤ C (15 + 8 * t) 0 ∧ C (15 + 8 * t) 0 ≤ 24)) ∧ ∀ j : Int, 0 ≤ j → j < 12 → 0 ≤ C 10 j ∧ C 10 j ≤ 100000
/-- what the reference keeps to by itself -/
def WI (A : Me) : Prop := ∀ j : Int, 0 ≤ j → j < 2142 → lo j ≤ A 431 j ∧ A 431 j ≤ hi j
def rlA (A : Me) : Prop := HY A ∧ WI A ∧ A 431 1 ≤ A 430 1 ∧ A 431 2 < A 431 1
/-- the class's memory and the reference's say the same -/
def rlR (C A : Me) : Prop := rlS C A 49 430 ∧ rlS C A 239 431 ∧ rlXs C A ∧ rlD C A ∧ rlF C ∧ rlA A
/-- alike over a stretch of cells -/
def eqC (C C' : Me) (l h : Int) : Prop := ∀ a j : Int, l ≤ a → a ≤ h → C' a j = C a j
/-- alike over the reference's row, but for what P says -/
def eqA (A A' : Me) (r : Int) (P : Int → Prop) : Prop := ∀ j : Int, P j → A' r j = A r j
theorem rlH.of {C A C' A' : Me} {s r : Int} (h : rlH C A s r) (hC : ∀ j, C' s j = C s j) (hA : A' r 13 = A r 13 ∧ A' r 1 = A r 1 ∧ A' r 2 = A r 2) : rlH C' A' s r := by
  unfold rlH
  rw [hC, hC, hC, hA.1, hA.2.1, hA.2.2]
  exact h
theorem rlN.of {C A C' A' : Me} {q r : Int} (h : rlN C A q r) (hC : ∀ a j, q ≤ a → a ≤ q + 4 → C' a j = C a j) (hA : ∀ j, j = 0 ∨ j = 10 ∨ j = 11 ∨ j = 12 ∨ j = 14 ∨ (99 ≤ j ∧ j < 114 ∧ (j - 99) % 3 = 0) ∨ (15 ≤ j ∧ j < 99 ∧ (j - 15) % 7 < 2) ∨ 2112 ≤ j → A' r j = A r j) (h0 : A r 0 ≤ 5) (h14 : A r 14 ≤ 12) : rlN C' A' q r := by
  unfold rlN
  rw [hC q _ (by omega) (by omega), hC q _ (by omega) (by omega), hC q _ (by omega) (by omega), hC q _ (by omega) (by omega), hC q _ (by omega) (by omega), hA 10 (by omega), hA 11 (by omega), hA 0 (by omega), hA 14 (by omega), hA 12 (by omega)]
  refine ⟨h.1, fun p g0 g1 => ?_, fun c g0 g1 => ?_, fun i g0 g1 => ?_⟩
  · rw [hC _ _ (by omega) (by omega), hA _ (by omega)]; exact h.2.1 p g0 g1
  · rw [hC _ _ (by omega) (by omega), hC _ _ (by omega) (by omega), hA _ (by omega), hA _ (by omega)]; exact h.2.2.1 c g0 g1
  · rw [hC _ _ (by omega) (by omega), hA _ (by omega)]; exact h.2.2.2 i g0 g1
theorem rlQ.of {C A C' A' : Me} {q r x : Int} (h : rlQ C A q r x) (hC : ∀ a j, q ≤ a → a ≤ q + 4 → C' a j = C a j) (hA : ∀ j, x ≤ j → j < x + 64 → A' r j = A r j) (h0 : A r (x + 1) ≤ 5) (h14 : A r x ≤ 12) : rlQ C' A' q r x := by
  unfold rlQ
  rw [hC q _ (by omega) (by omega), hC q _ (by omega) (by omega), hC q _ (by omega) (by omega), hC q _ (by omega) (by omega), hC q _ (by omega) (by omega), hA (x + 2) (by omega) (by omega), hA (x + 3) (by omega) (by omega), hA (x + 1) (by omega) (by omega), hA x (by omega) (by omega), hA (x + 4) (by omega) (by omega)]
  refine ⟨h.1, fun p g0 g1 => ?_, fun c g0 g1 => ?_, fun i g0 g1 => ?_⟩
  · rw [hC _ _ (by omega) (by omega), hA _ (by omega) (by omega)]; exact h.2.1 p g0 g1
  · rw [hC _ _ (by omega) (by omega), hC _ _ (by omega) (by omega), hA _ (by omega) (by omega), hA _ (by omega) (by omega)]; exact h.2.2.1 c g0 g1
  · rw [hC _ _ (by omega) (by omega), hA _ (by omega) (by omega)]; exact h.2.2.2 i g0 g1
/-- the bounds that the relation's rows keep to -/
def WR (A : Me) (r : Int) : Prop := ∀ j : Int, 0 ≤ j → j < 2142 → lo j ≤ A r j ∧ A r j ≤ hi j
theorem wr_a {A : Me} (h : WA A) : WR A 430 := h
theorem wr_i {A : Me} (h : WI A) : WR A 431 := h
theorem wr_0 {A : Me} {r : Int} (h : WR A r) : 0 ≤ A r 0 ∧ A r 0 ≤ 5 := h 0 (by decide) (by decide)
theorem wr_3 {A : Me} {r : Int} (h : WR A r) : 0 ≤ A r 3 ∧ A r 3 ≤ 30 := h 3 (by decide) (by decide)
theorem wr_14 {A : Me} {r : Int} (h : WR A r) : 0 ≤ A r 14 ∧ A r 14 ≤ 12 := h 14 (by decide) (by decide)
theorem wr_s0 {A : Me} {r : Int} (h : WR A r) {u : Int} (hu : 0 ≤ u ∧ u < 30) : A r (192 + 64 * u) ≤ 12 := by
  have := (h (192 + 64 * u) (by omega) (by omega)).2
  rw [hi_8 (by omega), show (192 + 64 * u - 192) % 64 = 0 by omega] at this
  exact this
theorem wr_s1 {A : Me} {r : Int} (h : WR A r) {u : Int} (hu : 0 ≤ u ∧ u < 30) : A r (192 + 64 * u + 1) ≤ 5 := by
  have := (h (192 + 64 * u + 1) (by omega) (by omega)).2
  rw [hi_8 (by omega), show (192 + 64 * u + 1 - 192) % 64 = 1 by omega] at this
  exact this
theorem rlT.of {C A C' A' : Me} {s r : Int} (h : rlT C A s r) (hW : WR A r) (hC : ∀ a j, s + 6 ≤ a → a ≤ s + 157 → C' a j = C a j) (hA : ∀ j, j = 3 ∨ (192 ≤ j ∧ j < 2112) → A' r j = A r j) (h0 : A r 0 ≤ A' r 0) (h14 : A r 14 ≤ A' r 14) : rlT C' A' s r := by
  have w3 := wr_3 hW
  unfold rlT
  rw [hC (s + 6) 0 (by omega) (by omega), hC (s + 6) 1 (by omega) (by omega), hA 3 (by omega)]
  refine ⟨h.1, h.2.1, fun u g0 g1 => ?_⟩
  obtain ⟨h1, h2, h3⟩ := h.2.2 u g0 g1
  have b := h.2.1
  refine ⟨h1.of (fun a j q0 q1 => hC a j (by omega) (by omega)) (fun j q0 q1 => hA j (by omega)) (wr_s1 hW (by omega)) (wr_s0 hW (by omega)), ?_, ?_⟩
  · rw [hA _ (by omega)]; omega
  · rw [hA _ (by omega)]; omega
theorem rlP.of {C A C' A' : Me} {s r : Int} (h : rlP C A s r) (h5 : A r 0 ≤ 5) (hC : ∀ a j, s + 158 ≤ a → a ≤ s + 159 → C' a j = C a j) (hA : ∀ j, j = 0 ∨ (99 ≤ j ∧ j < 114 ∧ (j - 99) % 3 ≠ 0) → A' r j = A r j) : rlP C' A' s r := by
  unfold rlP
  rw [hA 0 (by omega)]
  intro p g0 g1
  rw [hC _ _ (by omega) (by omega), hC _ _ (by omega) (by omega), hA _ (by omega), hA _ (by omega)]
  exact h p g0 g1
theorem hp1_c {T U : Int → Int} {s : Int} : ∀ n : Nat, (∀ c : Nat, c < n → T c = U c) → hp1 T s n = hp1 U s n := by
  intro n
  induction n with
  | zero => intro _; rfl
  | succ n ih =>
    intro h
    unfold hp1
    rw [ih (fun c q => h c (by omega)), h n (by omega)]
theorem hk_c {T U : Int → Int} {n : Nat} {s : Int} (h : ∀ c : Nat, c < n → T c = U c) : ∀ k : Nat, hk T n s k = hk U n s k := by
  intro k
  induction k with
  | zero => rfl
  | succ k ih => unfold hk; rw [ih]; exact hp1_c n h
theorem hangT_c {T U : Int → Int} {n : Nat} {c : Int} (h : ∀ c : Nat, c < n → T c = U c) : hangT T n c = hangT U n c := hk_c h 12
theorem rlK.of {C A C' A' : Me} {s r : Int} (h : rlK C A s r) (h12 : A r 14 ≤ 12) (hC : ∀ a j, s + 160 ≤ a → a ≤ s + 165 → C' a j = C a j) (hA : ∀ j, j = 14 ∨ (15 ≤ j ∧ j < 99 ∧ 2 ≤ (j - 15) % 7) → A' r j = A r j) (h0 : A r 0 ≤ A' r 0) : rlK C' A' s r := by
  unfold rlK
  rw [hA 14 (by omega)]
  intro c g0 g1
  obtain ⟨⟨h1, h2⟩, h3, h4, h5, h6, h7, h8⟩ := h c g0 g1
  rw [hC _ _ (by omega) (by omega), hC _ _ (by omega) (by omega), hC _ _ (by omega) (by omega), hC _ _ (by omega) (by omega), hC _ _ (by omega) (by omega), hC _ _ (by omega) (by omega), hA (15 + 7 * c + 2) (by omega), hA (15 + 7 * c + 3) (by omega), hA (15 + 7 * c + 4) (by omega), hA (15 + 7 * c + 5) (by omega), hA (15 + 7 * c + 6) (by omega)]
  refine ⟨⟨h1, by omega⟩, h3, h4, h5, h6, h7.trans (hangT_c fun e q => ?_), h8⟩
  exact (hA _ (by omega)).symm
theorem rlL.of {C A C' A' : Me} {s r : Int} (h : rlL C A s r) (hW : WR A r) (hC : ∀ a j, s + 166 ≤ a → a ≤ s + 188 → C' a j = C a j) (hA : ∀ j, (4 ≤ j ∧ j < 10) ∨ (114 ≤ j ∧ j < 192) → A' r j = A r j) (h14 : A r 14 ≤ A' r 14) : rlL C' A' s r := by
  have w4 : A r 4 ≤ 8 := (hW 4 (by decide) (by decide)).2
  have w5 : A r 5 ≤ 8 := (hW 5 (by decide) (by decide)).2
  have w6 : A r 6 ≤ 8 := (hW 6 (by decide) (by decide)).2
  have w7 : A r 7 ≤ 6 := (hW 7 (by decide) (by decide)).2
  have w8 : A r 8 ≤ 8 := (hW 8 (by decide) (by decide)).2
  have w9 : A r 9 ≤ 8 := (hW 9 (by decide) (by decide)).2
  obtain ⟨⟨a1, b1⟩, ⟨a2, b2⟩, ⟨a3, b3⟩, ⟨a4, b4⟩, ⟨a5, b5⟩, ⟨a6, b6⟩, b7⟩ := h
  unfold rlL
  rw [hA 4 (by omega), hA 5 (by omega), hA 6 (by omega), hA 7 (by omega), hA 8 (by omega), hA 9 (by omega), hC (s + 166) 0 (by omega) (by omega), hC (s + 170) 0 (by omega) (by omega), hC (s + 174) 0 (by omega) (by omega), hC (s + 178) 0 (by omega) (by omega), hC (s + 182) 0 (by omega) (by omega), hC (s + 186) 0 (by omega) (by omega)]
  refine ⟨⟨a1, fun i g0 g1 => ?_⟩, ⟨a2, fun i g0 g1 => ?_⟩, ⟨a3, fun i g0 g1 => ?_⟩, ⟨a4, fun i g0 g1 => ?_⟩, ⟨a5, fun i g0 g1 => ?_⟩, ⟨a6, fun i g0 g1 => ?_⟩, fun j g0 g1 => ?_⟩
  · have := b1 i g0 g1
    rw [hC _ _ (by omega) (by omega), hC _ _ (by omega) (by omega), hA (114 + 2 * i) (by omega), hA (114 + 2 * i + 1) (by omega)]
    exact ⟨⟨this.1.1, by omega⟩, this.2⟩
  · rw [hC _ _ (by omega) (by omega), hA _ (by omega)]; exact b2 i g0 g1
  · rw [hC _ _ (by omega) (by omega), hC _ _ (by omega) (by omega), hC _ _ (by omega) (by omega), hA _ (by omega), hA _ (by omega), hA _ (by omega)]; exact b3 i g0 g1
  · rw [hC _ _ (by omega) (by omega), hA _ (by omega)]; exact b4 i g0 g1
  · rw [hC _ _ (by omega) (by omega), hA _ (by omega)]; exact b5 i g0 g1
  · have := b6 i g0 g1
    rw [hC _ _ (by omega) (by omega), hC _ _ (by omega) (by omega), hA (176 + 2 * i) (by omega), hA (176 + 2 * i + 1) (by omega)]
    exact ⟨⟨this.1.1, by omega⟩, this.2⟩
  · rw [hC _ _ (by omega) (by omega)]; exact b7 j g0 g1
