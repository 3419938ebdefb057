/-- what a law may look at -/
def EV (dp nm nk : Int → Int) : Prop := (∀ v, 0 ≤ dp v ∧ dp v ≤ 9) ∧ (∀ k, 0 ≤ k → k < 9 → -9 ≤ nm k ∧ nm k ≤ 9999) ∧ ∀ k, 25 ≤ k → k ≤ 33 → nk k = nm (sgm k)
abbrev SM : Type := (Int → Int) → (Int → Int) → Int
/-- the class's code run on from one place to another -/
def CR (dp nk K : Int → Int) (len d : Int) (s s' : AS) : Prop := ∃ j : Nat, (j : Int) ≤ d ∧ ∀ f : Nat, akR dp nk K len (j + f) s = akR dp nk K len f s'
theorem CR.r {dp nk K : Int → Int} {len : Int} {s : AS} : CR dp nk K len 0 s s := ⟨0, Int.le_refl 0, fun f => by rw [Nat.zero_add]⟩
theorem CR.t {dp nk K : Int → Int} {len d e : Int} {s s' s2 : AS} (h : CR dp nk K len d s s') (k : CR dp nk K len e s' s2) : CR dp nk K len (d + e) s s2 := by
  obtain ⟨i, hi, h⟩ := h
  obtain ⟨j, hj, k⟩ := k
  exact ⟨i + j, by omega, fun f => by rw [Nat.add_assoc, h, k]⟩
theorem CR.u {dp nk K : Int → Int} {len d e : Int} {s s' : AS} (h : CR dp nk K len d s s') (k : d ≤ e) : CR dp nk K len e s s' := by
  obtain ⟨i, hi, h⟩ := h
  exact ⟨i, by omega, h⟩
theorem CR.o {dp nk K : Int → Int} {len : Int} {X : Int → Int} {n a k v : Int} (h : 0 ≤ a ∧ a < len) (hk : and32 (K a) 63 = k) (hv : shr32 (K a) 6 = v) : CR dp nk K len 1 (X, n, a) (akT dp nk k v (X, n, a)) := ⟨1, Int.le_refl 1, fun f => by
  rw [Nat.add_comm 1 f, akR_t (s := (X, n, a)) h, ← hk, ← hv]⟩
/-- a cell of the class's code -/
theorem cell {k v : Int} (hk : 0 ≤ k ∧ k < 64) (hv : 0 ≤ v ∧ v ≤ 10000) : and32 (or32 (shl32 v 6) k) 63 = k ∧ shr32 (or32 (shl32 v 6) k) 6 = v := by
  have e1 : shl32 v 6 = v * ((2 ^ 6 : Nat) : Int) := shl32_n (k := 6) hv.1 (by decide) (by show v * 64 < 2147483648; omega)
  have e2 : or32 (v * ((2 ^ 6 : Nat) : Int)) k = v * ((2 ^ 6 : Nat) : Int) + k := or32_add 6 hv.1 hk.1 (by show k < 64; exact hk.2) (by show v * 64 + k < 2147483648; omega)
  rw [e1, e2]
  have e3 : v * ((2 ^ 6 : Nat) : Int) + k = v * 64 + k := rfl
  rw [e3]
  refine ⟨?_, ?_⟩
  · have := and32_mask (x := v * 64 + k) 6 (by omega) (by omega) (by decide)
    rw [show ((2 ^ 6 - 1 : Nat) : Int) = 63 from rfl] at this
    rw [this]
    show (v * 64 + k) % 64 = k
    omega
  · have := shr32_n (x := v * 64 + k) (k := 6) (by omega) (by omega) (by decide)
    rw [show ((6 : Nat) : Int) = 6 from rfl] at this
    rw [this]
    show (v * 64 + k) / 64 = v
    omega
/-- a part of the class's code that leaves one number more -/
def CN (K : Int → Int) (a b bd : Int) (g : SM) : Prop := a ≤ b ∧ ∀ (K' : Int → Int) (len : Int) (dp nm nk X : Int → Int) (n : Int), (∀ i, a ≤ i → i < b → K' i = K i) → b ≤ len → 0 ≤ a → EV dp nm nk → 0 ≤ n → n ≤ bd → ∃ X' : Int → Int, CR dp nk K' len (b - a) (X, n, a) (X', n + 1, b) ∧ (∀ i, 0 ≤ i → i < n → X' i = X i) ∧ X' n = g dp nm
theorem CN.c {K L : Int → Int} {a b bd : Int} {g : SM} (h : CN K a b bd g) (e : ∀ i, a ≤ i → i < b → L i = K i) : CN L a b bd g := ⟨h.1, fun K' len dp nm nk X n hK => h.2 K' len dp nm nk X n (fun i a c => (hK i a c).trans (e i a c))⟩
theorem lsV_s {X : Int → Int} {n : Int} (h : 0 ≤ n) : lsV X (n + 1) = X n := by unfold lsV; rw [if_neg (by omega)]; congr 1; omega
theorem lsN_s {n : Int} (h : 0 ≤ n) : lsN (n + 1) = n := by unfold lsN; rw [if_neg (by omega)]; omega
theorem psX_l {X : Int → Int} {n v : Int} (h : n < 64) : psX X n v = upf X n v := if_neg (by omega)
theorem psN_l {n : Int} (h : n < 64) : psN n = n + 1 := if_neg (by omega)
/-- a number -/
theorem CN.num {K : Int → Int} {a bd v : Int} (hb : bd < 64) (h : K a = or32 (shl32 v 6) 2) (hv : 0 ≤ v ∧ v ≤ 10000) : CN K a (a + 1) bd (fun _ _ => v) := by
  refine ⟨by omega, fun K' len dp nm nk X n hK hl h0 hE n0 n1 => ?_⟩
  have e := hK a (by omega) (by omega)
  have c := cell (k := 2) (by decide) hv
  refine ⟨upf X n v, ?_, fun i a c => if_neg (by omega), if_pos rfl⟩
  have := CR.o (k := 2) (v := v) (dp := dp) (nk := nk) (K := K') (len := len) (X := X) (n := n) (a := a) ⟨h0, by omega⟩ (by rw [e, h]; exact c.1) (by rw [e, h]; exact c.2)
  rw [show a + 1 - a = 1 by omega]
  have t : akT dp nk 2 v (X, n, a) = (psX X n v, psN n, a + 1) := by
    unfold akT
    rw [if_neg (by decide), if_neg (by decide), if_neg (by decide), if_pos rfl]
  rw [t, psX_l (by omega), psN_l (by omega)] at this
  exact this
/-- a name -/
theorem CN.nam {K : Int → Int} {a bd k v : Int} (hb : bd < 64) (h : K a = or32 (shl32 v 6) k) (hv : 0 ≤ v ∧ v ≤ 10000) (hk : 25 ≤ k ∧ k ≤ 33) : CN K a (a + 1) bd (fun _ nm => nm (sgm k)) := by
  refine ⟨by omega, fun K' len dp nm nk X n hK hl h0 hE n0 n1 => ?_⟩
  have e := hK a (by omega) (by omega)
  have c := cell (k := k) (by omega) hv
  refine ⟨upf X n (nk k), ?_, fun i a c => if_neg (by omega), (if_pos rfl).trans (hE.2.2 k hk.1 hk.2)⟩
  have := CR.o (k := k) (v := v) (dp := dp) (nk := nk) (K := K') (len := len) (X := X) (n := n) (a := a) ⟨h0, by omega⟩ (by rw [e, h]; exact c.1) (by rw [e, h]; exact c.2)
  rw [show a + 1 - a = 1 by omega]
  have t : akT dp nk k v (X, n, a) = (psX X n (nk k), psN n, a + 1) := by
    unfold akT
    rw [if_neg (by omega), if_neg (by omega), if_neg (by omega), if_neg (by omega), if_pos hk]
  rw [t, psX_l (by omega), psN_l (by omega)] at this
  exact this
/-- what one sign makes of a number -/
theorem CN.one {K : Int → Int} {a b bd k : Int} {g : SM} (hb : bd < 64) (h : CN K a b bd g) (hc : K b = or32 (shl32 0 6) k) (hk : k = 41 ∨ k = 44 ∨ k = 35 ∨ k = 36) : CN K a (b + 1) bd (fun dp nm => o1C dp k (g dp nm)) := by
  have ab := h.1
  refine ⟨by omega, fun K' len dp nm nk X n hK hl h0 hE n0 n1 => ?_⟩
  obtain ⟨X', r, x1, x2⟩ := h.2 K' len dp nm nk X n (fun i a c => hK i a (by omega)) (by omega) h0 hE n0 n1
  have e := hK b (by omega) (by omega)
  have c := cell (k := k) (v := 0) (by omega) (by decide)
  have o := CR.o (k := k) (v := 0) (dp := dp) (nk := nk) (K := K') (len := len) (X := X') (n := n + 1) (a := b) ⟨by omega, by omega⟩ (by rw [e, hc]; exact c.1) (by rw [e, hc]; exact c.2)
  have t : akT dp nk k 0 (X', n + 1, b) = (psX X' (lsN (n + 1)) (o1C dp k (lsV X' (n + 1))), psN (lsN (n + 1)), b + 1) := by
    unfold akT
    rw [if_neg (by omega), if_neg (by omega), if_neg (by omega), if_neg (by omega), if_neg (by omega), if_pos hk]
  rw [t, lsN_s n0, lsV_s n0, psX_l (by omega), psN_l (by omega), x2] at o
  refine ⟨_, (r.t o).u (by omega), fun i a c => ?_, if_pos rfl⟩
  show (if i = n then _ else X' i) = X i
  rw [if_neg (by omega)]
  exact x1 i a c
/-- what a sign makes of two -/
theorem CN.two {K : Int → Int} {a b c bd k : Int} {g g2 : SM} (hb : bd + 1 < 64) (h : CN K a b bd g) (h2 : CN K b c (bd + 1) g2) (hc : K c = or32 (shl32 0 6) k) (hk : (6 ≤ k ∧ k ≤ 15) ∨ k = 42 ∨ k = 43) : CN K a (c + 1) bd (fun dp nm => o2C k (g dp nm) (g2 dp nm)) := by
  have ab := h.1
  have bc := h2.1
  refine ⟨by omega, fun K' len dp nm nk X n hK hl h0 hE n0 n1 => ?_⟩
  obtain ⟨X', r, x1, x2⟩ := h.2 K' len dp nm nk X n (fun i a c => hK i a (by omega)) (by omega) h0 hE n0 n1
  obtain ⟨Y, r2, y1, y2⟩ := h2.2 K' len dp nm nk X' (n + 1) (fun i a c => hK i (by omega) (by omega)) (by omega) (by omega) hE (by omega) (by omega)
  have e := hK c (by omega) (by omega)
  have ce := cell (k := k) (v := 0) (by omega) (by decide)
  have o := CR.o (k := k) (v := 0) (dp := dp) (nk := nk) (K := K') (len := len) (X := Y) (n := n + 1 + 1) (a := c) ⟨by omega, by omega⟩ (by rw [e, hc]; exact ce.1) (by rw [e, hc]; exact ce.2)
  have t : akT dp nk k 0 (Y, n + 1 + 1, c) = (psX Y (lsN (lsN (n + 1 + 1))) (o2C k (lsV Y (lsN (n + 1 + 1))) (lsV Y (n + 1 + 1))), psN (lsN (lsN (n + 1 + 1))), c + 1) := by
    unfold akT
    rw [if_neg (by omega), if_neg (by omega), if_neg (by omega), if_neg (by omega), if_neg (by omega), if_neg (by omega)]
  rw [t, lsN_s (show 0 ≤ n + 1 by omega), lsN_s n0, lsV_s n0, lsV_s (show 0 ≤ n + 1 by omega), psX_l (by omega), psN_l (by omega), y2, y1 n (by omega) (by omega), x2] at o
  refine ⟨_, ((r.t r2).t o).u (by omega), fun i a c => ?_, if_pos rfl⟩
  show (if i = n then _ else Y i) = X i
  rw [if_neg (by omega), y1 i a (by omega)]
  exact x1 i a c
/-- a choice -/
theorem CN.cho {K : Int → Int} {a b d e bd : Int} {g g2 g3 : SM} (hb : bd < 64) (h0 : 0 ≤ a) (he : e ≤ 300) (h : CN K a b bd g) (ht : K b = or32 (shl32 (d + 1) 6) 38) (h2 : CN K (b + 1) d bd g2) (hl : K d = or32 (shl32 e 6) 39) (h3 : CN K (d + 1) e bd g3) : CN K a e bd (fun dp nm => if g dp nm = 0 then g3 dp nm else g2 dp nm) := by
  have ab := h.1
  have bd1 := h2.1
  have de := h3.1
  refine ⟨by omega, fun K' len dp nm nk X n hK hl9 h0 hE n0 n1 => ?_⟩
  obtain ⟨X', r, x1, x2⟩ := h.2 K' len dp nm nk X n (fun i a c => hK i a (by omega)) (by omega) h0 hE n0 n1
  have eb := hK b (by omega) (by omega)
  have ed := hK d (by omega) (by omega)
  have cb := cell (k := 38) (v := d + 1) (by decide) (by omega)
  have cd := cell (k := 39) (v := e) (by decide) (by omega)
  have o := CR.o (k := 38) (v := d + 1) (dp := dp) (nk := nk) (K := K') (len := len) (X := X') (n := n + 1) (a := b) ⟨by omega, by omega⟩ (by rw [eb, ht]; exact cb.1) (by rw [eb, ht]; exact cb.2)
  have t : akT dp nk 38 (d + 1) (X', n + 1, b) = (if lsV X' (n + 1) = 0 then (X', lsN (n + 1), d + 1) else (X', lsN (n + 1), b + 1)) := by
    unfold akT
    rw [if_neg (by decide), if_neg (by decide), if_pos rfl]
  rw [t, lsN_s n0, lsV_s n0, x2] at o
  by_cases q : g dp nm = 0
  · rw [if_pos q] at o
    obtain ⟨Y, r2, y1, y2⟩ := h3.2 K' len dp nm nk X' n (fun i a c => hK i (by omega) (by omega)) (by omega) (by omega) hE n0 n1
    refine ⟨Y, ((r.t o).t r2).u (by omega), fun i a c => (y1 i a c).trans (x1 i a c), ?_⟩
    show Y n = if g dp nm = 0 then _ else _
    rw [if_pos q]; exact y2
  · rw [if_neg q] at o
    obtain ⟨Y, r2, y1, y2⟩ := h2.2 K' len dp nm nk X' n (fun i a c => hK i (by omega) (by omega)) (by omega) (by omega) hE n0 n1
    have o2 := CR.o (k := 39) (v := e) (dp := dp) (nk := nk) (K := K') (len := len) (X := Y) (n := n + 1) (a := d) ⟨by omega, by omega⟩ (by rw [ed, hl]; exact cd.1) (by rw [ed, hl]; exact cd.2)
    have t2 : akT dp nk 39 e (Y, n + 1, d) = (Y, n + 1, e) := by
      unfold akT
      rw [if_neg (by decide), if_pos rfl]
    rw [t2] at o2
    refine ⟨Y, (((r.t o).t r2).t o2).u (by omega), fun i a c => (y1 i a c).trans (x1 i a c), ?_⟩
    show Y n = if g dp nm = 0 then _ else _
    rw [if_neg q]; exact y2
