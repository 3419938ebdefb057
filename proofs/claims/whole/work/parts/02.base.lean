/-! numbers: what 32 and 64 bits make of a whole number -/
def w32 (x : Int) : Int := (x + 2147483648) % 4294967296 - 2147483648
def w64 (x : Int) : Int := (x + 9223372036854775808) % 18446744073709551616 - 9223372036854775808
theorem w32_in (x : Int) : -2147483648 ≤ w32 x ∧ w32 x < 2147483648 := by unfold w32; omega
theorem w64_in (x : Int) : -9223372036854775808 ≤ w64 x ∧ w64 x < 9223372036854775808 := by unfold w64; omega
theorem w32_id {x : Int} (h : -2147483648 ≤ x ∧ x < 2147483648) : w32 x = x := by unfold w32; omega
theorem w64_id {x : Int} (h : -9223372036854775808 ≤ x ∧ x < 9223372036854775808) : w64 x = x := by unfold w64; omega
theorem bm32 (x : Int) : x.bmod 4294967296 = w32 x := by
  rw [Int.bmod_def]; unfold w32; split <;> omega
theorem bm64 (x : Int) : x.bmod 18446744073709551616 = w64 x := by
  rw [Int.bmod_def]; unfold w64; split <;> omega
theorem oI_t (x : Int) : (Int32.ofInt x).toInt = w32 x := by
  rw [Int32.toInt_ofInt]; exact bm32 x
theorem oL_t (x : Int) : (Int64.ofInt x).toInt = w64 x := by
  rw [Int64.toInt_ofInt]; exact bm64 x
theorem oI_w (x : Int) : Int32.ofInt (w32 x) = Int32.ofInt x := by
  apply Int32.toInt_inj.mp
  rw [oI_t, oI_t, w32_id (w32_in x)]
theorem oL_w (x : Int) : Int64.ofInt (w64 x) = Int64.ofInt x := by
  apply Int64.toInt_inj.mp
  rw [oL_t, oL_t, w64_id (w64_in x)]
theorem oI_add (x y : Int) : Int32.ofInt x + Int32.ofInt y = Int32.ofInt (w32 (x + y)) := by rw [oI_w, Int32.ofInt_add]
theorem oI_sub (x y : Int) : Int32.ofInt x - Int32.ofInt y = Int32.ofInt (w32 (x - y)) := by rw [oI_w, Int32.ofInt_sub]
theorem oI_mul (x y : Int) : Int32.ofInt x * Int32.ofInt y = Int32.ofInt (w32 (x * y)) := by rw [oI_w, Int32.ofInt_mul]
theorem oI_neg (x : Int) : -Int32.ofInt x = Int32.ofInt (w32 (-x)) := by rw [oI_w, Int32.ofInt_neg]
theorem oL_add (x y : Int) : Int64.ofInt x + Int64.ofInt y = Int64.ofInt (w64 (x + y)) := by rw [oL_w, Int64.ofInt_add]
theorem oL_sub (x y : Int) : Int64.ofInt x - Int64.ofInt y = Int64.ofInt (w64 (x - y)) := by rw [oL_w, Int64.ofInt_sub]
theorem oL_mul (x y : Int) : Int64.ofInt x * Int64.ofInt y = Int64.ofInt (w64 (x * y)) := by rw [oL_w, Int64.ofInt_mul]
theorem oL_neg (x : Int) : -Int64.ofInt x = Int64.ofInt (w64 (-x)) := by rw [oL_w, Int64.ofInt_neg]
theorem oI_div {x y : Int} (hx : -2147483648 ≤ x ∧ x < 2147483648) (hy : -2147483648 ≤ y ∧ y < 2147483648) : Int32.ofInt x / Int32.ofInt y = Int32.ofInt (w32 (x.tdiv y)) := by
  apply Int32.toInt_inj.mp
  rw [Int32.toInt_div, oI_t, oI_t, oI_t, w32_id hx, w32_id hy, w32_id (w32_in _)]
  exact bm32 _
theorem oL_div {x y : Int} (hx : -9223372036854775808 ≤ x ∧ x < 9223372036854775808) (hy : -9223372036854775808 ≤ y ∧ y < 9223372036854775808) : Int64.ofInt x / Int64.ofInt y = Int64.ofInt (w64 (x.tdiv y)) := by
  apply Int64.toInt_inj.mp
  rw [Int64.toInt_div, oL_t, oL_t, oL_t, w64_id hx, w64_id hy, w64_id (w64_in _)]
  exact bm64 _
theorem oI_rem {x y : Int} (hx : -2147483648 ≤ x ∧ x < 2147483648) (hy : -2147483648 ≤ y ∧ y < 2147483648) : Int32.ofInt x - Int32.ofInt x / Int32.ofInt y * Int32.ofInt y = Int32.ofInt (x.tmod y) := by
  rw [oI_div hx hy, oI_w, ← Int32.ofInt_mul, ← Int32.ofInt_sub]
  congr 1
  have := Int.mul_tdiv_add_tmod x y
  have h2 : x.tdiv y * y = y * x.tdiv y := Int.mul_comm _ _
  omega
theorem oL_rem {x y : Int} (hx : -9223372036854775808 ≤ x ∧ x < 9223372036854775808) (hy : -9223372036854775808 ≤ y ∧ y < 9223372036854775808) : Int64.ofInt x - Int64.ofInt x / Int64.ofInt y * Int64.ofInt y = Int64.ofInt (x.tmod y) := by
  rw [oL_div hx hy, oL_w, ← Int64.ofInt_mul, ← Int64.ofInt_sub]
  congr 1
  have := Int.mul_tdiv_add_tmod x y
  have h2 : x.tdiv y * y = y * x.tdiv y := Int.mul_comm _ _
  omega
theorem oI_eq {x y : Int} (hx : -2147483648 ≤ x ∧ x < 2147483648) (hy : -2147483648 ≤ y ∧ y < 2147483648) : Int32.ofInt x = Int32.ofInt y ↔ x = y := by
  rw [← Int32.toInt_inj, oI_t, oI_t, w32_id hx, w32_id hy]
theorem oI_lt {x y : Int} (hx : -2147483648 ≤ x ∧ x < 2147483648) (hy : -2147483648 ≤ y ∧ y < 2147483648) : Int32.ofInt x < Int32.ofInt y ↔ x < y := by
  rw [Int32.lt_iff_toInt_lt, oI_t, oI_t, w32_id hx, w32_id hy]
theorem oI_le {x y : Int} (hx : -2147483648 ≤ x ∧ x < 2147483648) (hy : -2147483648 ≤ y ∧ y < 2147483648) : Int32.ofInt x ≤ Int32.ofInt y ↔ x ≤ y := by
  rw [Int32.le_iff_toInt_le, oI_t, oI_t, w32_id hx, w32_id hy]
theorem oL_eq {x y : Int} (hx : -9223372036854775808 ≤ x ∧ x < 9223372036854775808) (hy : -9223372036854775808 ≤ y ∧ y < 9223372036854775808) : Int64.ofInt x = Int64.ofInt y ↔ x = y := by
  rw [← Int64.toInt_inj, oL_t, oL_t, w64_id hx, w64_id hy]
theorem oL_lt {x y : Int} (hx : -9223372036854775808 ≤ x ∧ x < 9223372036854775808) (hy : -9223372036854775808 ≤ y ∧ y < 9223372036854775808) : Int64.ofInt x < Int64.ofInt y ↔ x < y := by
  rw [Int64.lt_iff_toInt_lt, oL_t, oL_t, w64_id hx, w64_id hy]
theorem oI_0 : (0 : Int32) = Int32.ofInt 0 := rfl
theorem oI_in (v : Int32) : -2147483648 ≤ v.toInt ∧ v.toInt < 2147483648 := ⟨Int32.le_toInt v, Int32.toInt_lt v⟩
theorem oL_in (v : Int64) : -9223372036854775808 ≤ v.toInt ∧ v.toInt < 9223372036854775808 := ⟨Int64.le_toInt v, Int64.toInt_lt v⟩
theorem oI_toL {x : Int} (hx : -2147483648 ≤ x ∧ x < 2147483648) : (Int32.ofInt x).toInt64 = Int64.ofInt x := by
  apply Int64.toInt_inj.mp
  rw [Int32.toInt_toInt64, oI_t, w32_id hx, oL_t, w64_id (by omega)]
theorem oL_toI {x : Int} (hx : -9223372036854775808 ≤ x ∧ x < 9223372036854775808) : (Int64.ofInt x).toInt32 = Int32.ofInt (w32 x) := by
  apply Int32.toInt_inj.mp
  rw [Int64.toInt_toInt32, oL_t, w64_id hx, oI_t, w32_id (w32_in _)]
  exact bm32 x
theorem oI_clamp {j : Int} (h0 : 0 ≤ j) (h1 : j < 2147483648) : (Int32.ofInt j).toNatClampNeg = j.toNat := by
  show (Int32.ofInt j).toInt.toNat = j.toNat
  rw [oI_t, w32_id (by omega)]
theorem oI_vin {j : Int} {n : Nat} (h0 : 0 ≤ j) (h1 : j < n) (hn : n < 2147483648) : vp_in (Int32.ofInt j) n := by
  rw [vp_in_iff, oI_t, w32_id (by omega)]
  omega
theorem oI_nneg {j : Int} (h0 : 0 ≤ j) (h1 : j < 2147483648) : ¬ Int32.ofInt j < 0 := by
  rw [oI_0, oI_lt (by omega) (by omega)]; omega
/-! the operations on bits, as they are on 32 and 64 of them -/
def and32 (x y : Int) : Int := (Int32.ofInt x &&& Int32.ofInt y).toInt
def or32 (x y : Int) : Int := (Int32.ofInt x ||| Int32.ofInt y).toInt
def xor32 (x y : Int) : Int := (Int32.ofInt x ^^^ Int32.ofInt y).toInt
def shl32 (x y : Int) : Int := (Int32.ofInt x <<< (Int32.ofInt y &&& 31)).toInt
def shr32 (x y : Int) : Int := (Int32.ofInt x >>> (Int32.ofInt y &&& 31)).toInt
def ushr32 (x y : Int) : Int := ((Int32.ofInt x).toUInt32 >>> ((Int32.ofInt y).toUInt32 &&& Int32.toUInt32 31)).toInt32.toInt
def or64 (x y : Int) : Int := (Int64.ofInt x ||| Int64.ofInt y).toInt
def shl64 (x y : Int) : Int := (Int64.ofInt x <<< ((Int32.ofInt y).toInt64 &&& 63)).toInt
def shr64 (x y : Int) : Int := (Int64.ofInt x >>> ((Int32.ofInt y).toInt64 &&& 63)).toInt
def cmp64 (x y : Int) : Int := if y < x then 1 else if x = y then 0 else -1
theorem oI_cmp {x y : Int} (hx : -9223372036854775808 ≤ x ∧ x < 9223372036854775808) (hy : -9223372036854775808 ≤ y ∧ y < 9223372036854775808) : lg_cmp (Int64.ofInt x) (Int64.ofInt y) = Int32.ofInt (cmp64 x y) := by
  unfold lg_cmp cmp64
  by_cases h : y < x
  · rw [if_pos h, if_pos (show Int64.ofInt x > Int64.ofInt y from (oL_lt hy hx).mpr h)]; rfl
  · rw [if_neg h, if_neg (fun q : Int64.ofInt x > Int64.ofInt y => h ((oL_lt hy hx).mp q))]
    by_cases h2 : x = y
    · rw [if_pos h2, if_pos ((oL_eq hx hy).mpr h2)]; rfl
    · rw [if_neg h2, if_neg (fun q => h2 ((oL_eq hx hy).mp q))]; rfl
theorem cmp64_in (x y : Int) : -1 ≤ cmp64 x y ∧ cmp64 x y ≤ 1 := by unfold cmp64; split <;> (try split) <;> omega
/-! values, shapes, memory -/
abbrev AV : Type := Nat × Int
abbrev Sh : Type := List (Nat × Nat × List Int)
abbrev Me : Type := Int → Int → Int
abbrev MI : Type := MethodName × ByteArray × Nat × Option FieldType
def up (M : Me) (a j v : Int) : Me := fun a' j' => if a' = a ∧ j' = j then v else M a' j'
/-- where a reference lies: none, or so many cells behind the base -/
def rfo (b : Nat) (x : Int) : Option Nat := if x < 0 then none else some (b + x.toNat)
/-- what a value is on the machine: 0 an int, 1 a reference, 2 a long, 3 a cell from without -/
def cv (b : Nat) (sc : Nat → Nat) (v : AV) : Value := if v.1 = 0 then .int (Int32.ofInt v.2) else if v.1 = 2 then .long (Int64.ofInt v.2) else if v.1 = 3 then .ref (sc v.2.toNat) else va_rf (rfo b v.2)
def okA (v : AV) : Prop := (v.1 = 0 → -2147483648 ≤ v.2 ∧ v.2 < 2147483648) ∧ (v.1 = 2 → -9223372036854775808 ≤ v.2 ∧ v.2 < 9223372036854775808)
def okL (l : List AV) : Prop := ∀ v, v ∈ l → okA v
theorem okL_cons {v : AV} {l : List AV} : okL (v :: l) ↔ okA v ∧ okL l := by
  constructor
  · exact fun h => ⟨h v List.mem_cons_self, fun w hw => h w (List.mem_cons_of_mem _ hw)⟩
  · intro h w hw
    rcases List.mem_cons.mp hw with rfl | hw
    · exact h.1
    · exact h.2 w hw
theorem okL_nil : okL [] := fun _ h => absurd h List.not_mem_nil
theorem okA_i {x : Int} (h : -2147483648 ≤ x ∧ x < 2147483648) : okA (0, x) := ⟨fun _ => h, fun h => absurd h (show ¬ (0 : Nat) = 2 by decide)⟩
theorem okA_l {x : Int} (h : -9223372036854775808 ≤ x ∧ x < 9223372036854775808) : okA (2, x) := ⟨fun h => absurd h (show ¬ (2 : Nat) = 0 by decide), fun _ => h⟩
theorem okA_r {x : Int} : okA (1, x) := ⟨fun h => absurd h (show ¬ (1 : Nat) = 0 by decide), fun h => absurd h (show ¬ (1 : Nat) = 2 by decide)⟩
theorem okA_s {x : Int} : okA (3, x) := ⟨fun h => absurd h (show ¬ (3 : Nat) = 0 by decide), fun h => absurd h (show ¬ (3 : Nat) = 2 by decide)⟩
/-- the storage of the fields of each class: 0 an int, 1 a reference, 2 a long, 5 a boolean -/
def fTs : List (List Nat) := [[1, 0], [0, 1, 0, 1, 1, 1], [0, 1, 1, 0, 1, 1], [0, 0, 0, 0, 0, 1, 1, 1, 1], [0, 0, 0, 1, 1, 0, 0, 0, 0, 0], [1, 1], [0, 0, 0, 1, 1, 1, 1, 1, 1, 1, 1, 1, 1, 1, 1, 1, 1, 1, 1, 1, 1], [0, 0, 1], [0, 0, 1, 1, 1, 1], [0, 1, 1, 1], [1, 1, 1, 1, 1, 1, 1], [1, 1, 1, 1, 0, 0, 0, 0, 0, 0, 0, 2, 0, 0, 0, 1, 0, 0, 5, 0, 1, 1, 1, 1, 1, 0, 1, 1, 1]]
def fT (c j : Nat) : Nat := (fTs.getD c []).getD j 1
def arT (t : Nat) : Nat := if t = 20 then 0 else if t = 21 then 5 else if t = 22 then 2 else 1
def elT (t j : Nat) : Nat := if t < 12 then fT t j else arT t
def okv (t : Nat) (x : Int) : Prop := (t = 0 → -2147483648 ≤ x ∧ x < 2147483648) ∧ (t = 5 → 0 ≤ x ∧ x ≤ 1) ∧ (t = 2 → -9223372036854775808 ≤ x ∧ x < 9223372036854775808)
def tyT (t : Nat) : FieldType := if t = 20 then .int else if t = 21 then .boolean else if t = 22 then .long else if t = 23 then .object RX8 else if t = 24 then .object RX3 else .array .int
def cf (b t : Nat) (x r : Int) : Value := if t = 1 then va_rf (rfo b r) else if t = 2 then .long (Int64.ofInt x) else .int (Int32.ofInt x)
def ent (b : Nat) (κ : Nat → ClassId) (q : Nat × Nat × List Int) (f : Int → Int) : va_E :=
  if q.1 < 12 then .inr (q.1, (List.range q.2.1).map (fun j : Nat => cf b (fT q.1 j) (f j) (q.2.2.getD j (-1))))
  else if q.1 = 22 then .inl (κ q.1, q.2.1, .inr (.inl (fun j : Nat => Int64.ofInt (f j))))
  else if q.1 = 20 ∨ q.1 = 21 then .inl (κ q.1, q.2.1, .inl (fun j : Nat => Int32.ofInt (f j)))
  else .inl (κ q.1, q.2.1, .inr (.inr (.inr (.inr (fun j : Nat => rfo b (q.2.2.getD j (-1)))))))
def toW (b : Nat) (κ : Nat → ClassId) (S : Sh) (M : Me) : va_W := S.mapIdx (fun i q => (b + i, ent b κ q (M i)))
theorem toW_at {b : Nat} {κ : Nat → ClassId} {S : Sh} {M : Me} {i : Nat} {q : Nat × Nat × List Int} (h : S[i]? = some q) : (toW b κ S M)[i]? = some (b + i, ent b κ q (M i)) := by
  unfold toW; rw [List.getElem?_mapIdx, h]; rfl
theorem toW_of {b : Nat} {κ : Nat → ClassId} {S : Sh} {M : Me} {i : Nat} {x : Nat × va_E} (h : (toW b κ S M)[i]? = some x) : ∃ q, S[i]? = some q ∧ x = (b + i, ent b κ q (M i)) := by
  unfold toW at h; rw [List.getElem?_mapIdx] at h
  cases hq : S[i]? with
  | none => rw [hq] at h; cases h
  | some q => rw [hq] at h; cases h; exact ⟨q, rfl, rfl⟩
theorem toW_D (b : Nat) (κ : Nat → ClassId) (S : Sh) (M : Me) : va_D (fun q => b ≤ q) (toW b κ S M) := by
  refine ⟨fun i j p q hi hj hpq => ?_, fun k q hk => ?_⟩
  · obtain ⟨_, -, rfl⟩ := toW_of hi
    obtain ⟨_, -, rfl⟩ := toW_of hj
    have : b + i = b + j := hpq
    omega
  · obtain ⟨_, -, rfl⟩ := toW_of hk
    exact Nat.le_add_right b k
/-- the world: the cells from the base on, all of them, and their numbers in their bounds -/
def Wd (b : Nat) (κ : Nat → ClassId) (D : va_G) (S : Sh) (M : Me) (H : Heap) : Prop :=
  va_P D vwCl (toW b κ S M) H ∧ H.size = b + S.length ∧ ∀ (i : Nat) (q : Nat × Nat × List Int), S[i]? = some q → ∀ j : Nat, j < q.2.1 → okv (elT q.1 j) (M i j)
theorem Wd_okv {b : Nat} {κ : Nat → ClassId} {D : va_G} {S : Sh} {M : Me} {H : Heap} (h : Wd b κ D S M H) {a j : Int} {q : Nat × Nat × List Int} (hS : S[a.toNat]? = some q) (ha : 0 ≤ a) (hj0 : 0 ≤ j) (hj : j < q.2.1) : okv (elT q.1 j.toNat) (M a j) := by
  have := h.2.2 a.toNat q hS j.toNat (by omega)
  rwa [Int.toNat_of_nonneg ha, Int.toNat_of_nonneg hj0] at this
/-- another value at one place of the memory: one cell of the world is another -/
theorem toW_up {b : Nat} {κ : Nat → ClassId} {S : Sh} {M : Me} {a j v : Int} {q : Nat × Nat × List Int} (ha : 0 ≤ a) (hS : S[a.toNat]? = some q) : toW b κ S (up M a j v) = (toW b κ S M).set a.toNat (b + a.toNat, ent b κ q (up M a j v a)) := by
  apply List.ext_getElem?
  intro i
  by_cases h : i = a.toNat
  · subst h
    rw [toW_at hS, List.getElem?_set_self (by
      have := (List.getElem?_eq_some_iff.mp (toW_at (b := b) (κ := κ) (M := M) hS)).1
      exact this)]
    rw [Int.toNat_of_nonneg ha]
  · rw [List.getElem?_set_ne (Ne.symm h)]
    unfold toW
    rw [List.getElem?_mapIdx, List.getElem?_mapIdx]
    cases hq : S[i]? with
    | none => rfl
    | some q' =>
      have e : up M a j v (i : Int) = M i := by
        funext j'
        unfold up
        rw [if_neg]
        intro q
        apply h
        have := q.1
        omega
      show some (b + i, ent b κ q' (up M a j v i)) = some (b + i, ent b κ q' (M i))
      rw [e]
/-- another reference at one place of the shape -/
def setR (S : Sh) (a : Nat) (j : Nat) (r : Int) : Sh := S.modify a (fun q => (q.1, q.2.1, q.2.2.set j r))
theorem toW_setR {b : Nat} {κ : Nat → ClassId} {S : Sh} {M : Me} {a j : Nat} {r : Int} {q : Nat × Nat × List Int} (hS : S[a]? = some q) : toW b κ (setR S a j r) M = (toW b κ S M).set a (b + a, ent b κ (q.1, q.2.1, q.2.2.set j r) (M a)) := by
  apply List.ext_getElem?
  intro i
  by_cases h : i = a
  · subst h
    rw [List.getElem?_set_self ((List.getElem?_eq_some_iff.mp (toW_at (b := b) (κ := κ) (M := M) hS)).1)]
    apply toW_at
    unfold setR
    rw [List.getElem?_modify_eq, hS]; rfl
  · rw [List.getElem?_set_ne (Ne.symm h)]
    unfold toW setR
    rw [List.getElem?_mapIdx, List.getElem?_mapIdx, List.getElem?_modify]
    cases S[i]? with
    | none => rfl
    | some x =>
      show some (b + i, ent b κ (if a = i then _ else x) (M i)) = _
      rw [if_neg (Ne.symm h)]; rfl
