theorem rnS_a {dp nm T : Int → Int} {p a : Int} {s : ES} {i : Nat} : ∀ j : Nat, rnS dp nm T p a s (i + j) = rnS dp nm T p (a + (i : Int)) (rnS dp nm T p a s i) j := by
  intro j
  induction j with
  | zero => rfl
  | succ j ih =>
    show stp dp nm (T (p + 2 * (a + ((i + j : Nat) : Int)))) (T (p + 2 * (a + ((i + j : Nat) : Int)) + 1)) (rnS dp nm T p a s (i + j)) = stp dp nm (T (p + 2 * (a + (i : Int) + (j : Int)))) (T (p + 2 * (a + (i : Int) + (j : Int)) + 1)) (rnS dp nm T p (a + (i : Int)) (rnS dp nm T p a s i) j)
    rw [ih, show a + ((i + j : Nat) : Int) = a + (i : Int) + (j : Int) by omega]
/-- the reference's code run on, within the rows -/
def RR (dp nm T : Int → Int) (p a : Int) (s : ES) (b : Int) (s' : ES) : Prop := a ≤ b ∧ rnS dp nm T p a s (b - a).toNat = s' ∧ ∀ j : Nat, (j : Int) < b - a → grd (T (p + 2 * (a + (j : Int)))) (T (p + 2 * (a + (j : Int)) + 1)) (rnS dp nm T p a s j)
theorem RR.t {dp nm T : Int → Int} {p a b c : Int} {s s' s2 : ES} (h : RR dp nm T p a s b s') (k : RR dp nm T p b s' c s2) : RR dp nm T p a s c s2 := by
  obtain ⟨h1, h2, h3⟩ := h
  obtain ⟨k1, k2, k3⟩ := k
  have e : (c - a).toNat = (b - a).toNat + (c - b).toNat := by omega
  have ea : a + (((b - a).toNat : Nat) : Int) = b := by omega
  refine ⟨by omega, ?_, fun j hj => ?_⟩
  · rw [e, rnS_a, ea, h2]; exact k2
  · by_cases q : (j : Int) < b - a
    · exact h3 j q
    · obtain ⟨i, rfl⟩ : ∃ i : Nat, j = (b - a).toNat + i := ⟨j - (b - a).toNat, by omega⟩
      rw [rnS_a, ea, h2, show a + (((b - a).toNat + i : Nat) : Int) = b + (i : Int) by omega]
      exact k3 i (by omega)
theorem RR.o {dp nm T : Int → Int} {p a : Int} {s : ES} {k v : Int} (hk : T (p + 2 * a) = k) (hv : T (p + 2 * a + 1) = v) (g : grd k v s) : RR dp nm T p a s (a + 1) (stp dp nm k v s) := by
  refine ⟨by omega, ?_, fun j hj => ?_⟩
  · rw [show (a + 1 - a).toNat = 1 by omega]
    show stp dp nm (T (p + 2 * (a + ((0 : Nat) : Int)))) (T (p + 2 * (a + ((0 : Nat) : Int)) + 1)) s = _
    rw [show a + ((0 : Nat) : Int) = a by omega, hk, hv]
  · obtain rfl : j = 0 := by omega
    rw [show a + ((0 : Nat) : Int) = a by omega, hk, hv]
    exact g
/-- a part of the reference's code that leaves one number (0) or one truth (1) more -/
def RN (T : Int → Int) (p a b bd tr : Int) (g : SM) : Prop := a ≤ b ∧ ∀ (T' dp nm nk V H : Int → Int) (n h : Int), (∀ i, p + 2 * a ≤ i → i < p + 2 * b → T' i = T i) → EV dp nm nk → 0 ≤ n → n ≤ bd → 0 ≤ h → h ≤ bd → (∀ c, 0 ≤ c → c < n → -10000000 < V c ∧ V c < 10000000) → ∃ V' H' : Int → Int, RR dp nm T' p a (V, H, n, h) b (V', H', n + 1 - tr, h + tr) ∧ (∀ i, 0 ≤ i → i < n → V' i = V i) ∧ (∀ i, 0 ≤ i → i < h → H' i = H i) ∧ (tr = 0 → V' n = g dp nm) ∧ (tr = 1 → H' h = g dp nm)
/-- what it leaves is not far off -/
def BD (tr : Int) (g : SM) : Prop := ∀ dp nm nk : Int → Int, EV dp nm nk → (tr = 0 → -1000000 ≤ g dp nm ∧ g dp nm ≤ 1000000) ∧ (tr = 1 → 0 ≤ g dp nm ∧ g dp nm ≤ 1)
theorem RN.c {T U : Int → Int} {p a b bd tr : Int} {g : SM} (h : RN T p a b bd tr g) (e : ∀ i, p + 2 * a ≤ i → i < p + 2 * b → U i = T i) : RN U p a b bd tr g := ⟨h.1, fun T' dp nm nk V H n k hK => h.2 T' dp nm nk V H n k (fun i a c => (hK i a c).trans (e i a c))⟩
theorem RN.num {T : Int → Int} {p a bd v : Int} (hb : bd < 300) (h : T (p + 2 * a) = 0) (hv : T (p + 2 * a + 1) = v) : RN T p a (a + 1) bd 0 (fun _ _ => v) := by
  refine ⟨by omega, fun T' dp nm nk V H n k hT hE n0 n1 k0 k1 hV => ⟨upf V n v, H, ?_, fun i a c => if_neg (by omega), fun _ _ _ => rfl, fun _ => if_pos rfl, fun w => absurd w (by decide)⟩⟩
  have o := RR.o (dp := dp) (nm := nm) (T := T') (p := p) (a := a) (s := (V, H, n, k)) (k := 0) (v := v) (by rw [hT _ (by omega) (by omega), h]) (by rw [hT _ (by omega) (by omega), hv]) (by
    refine ⟨by decide, n0, by show n ≤ 330; omega, k0, by show k ≤ 330; omega, hV, fun _ => by show n < 330; omega, ?_⟩
    refine ⟨?_, ?_, ?_, ?_, ?_, ?_, ?_⟩ <;> omega)
  rw [show n + 1 - 0 = n + 1 by omega, show k + 0 = k by omega]
  exact o
theorem RN.nam {T : Int → Int} {p a bd v : Int} (hb : bd < 300) (h : T (p + 2 * a) = 1) (hv : T (p + 2 * a + 1) = v) (v9 : 0 ≤ v ∧ v < 9) : RN T p a (a + 1) bd 0 (fun _ nm => nm v) := by
  refine ⟨by omega, fun T' dp nm nk V H n k hT hE n0 n1 k0 k1 hV => ⟨upf V n (nm v), H, ?_, fun i a c => if_neg (by omega), fun _ _ _ => rfl, fun _ => if_pos rfl, fun w => absurd w (by decide)⟩⟩
  have o := RR.o (dp := dp) (nm := nm) (T := T') (p := p) (a := a) (s := (V, H, n, k)) (k := 1) (v := v) (by rw [hT _ (by omega) (by omega), h]) (by rw [hT _ (by omega) (by omega), hv]) (by
    refine ⟨by decide, n0, by show n ≤ 330; omega, k0, by show k ≤ 330; omega, hV, fun _ => by show n < 330; omega, ?_⟩
    refine ⟨fun _ => v9, ?_, ?_, ?_, ?_, ?_, ?_⟩ <;> omega)
  rw [show n + 1 - 0 = n + 1 by omega, show k + 0 = k by omega]
  exact o
theorem up_b {V : Int → Int} {n v : Int} (h : ∀ c, 0 ≤ c → c < n → -10000000 < V c ∧ V c < 10000000) (hv : -1000000 ≤ v ∧ v ≤ 1000000) (e : V n = v) : ∀ c, 0 ≤ c → c < n + 1 → -10000000 < V c ∧ V c < 10000000 := fun c a b => by
  by_cases q : c = n
  · subst q; omega
  · exact h c a (by omega)
/-- one number changed -/
theorem RN.one {T : Int → Int} {p a b bd k : Int} {g : SM} (hb : bd < 300) (hB : BD 0 g) (h : RN T p a b bd 0 g) (hk : T (p + 2 * b) = k) (k9 : k = 2 ∨ k = 3 ∨ k = 5) : RN T p a (b + 1) bd 0 (fun dp nm => if k = 5 then -(g dp nm) else if k = 3 then dp (g dp nm) else trd (g dp nm)) := by
  have ab := h.1
  refine ⟨by omega, fun T' dp nm nk V H n u hT hE n0 n1 u0 u1 hV => ?_⟩
  obtain ⟨V', H', r, x1, x2, x3, -⟩ := h.2 T' dp nm nk V H n u (fun i a c => hT i a (by omega)) hE n0 n1 u0 u1 hV
  rw [show n + 1 - 0 = n + 1 by omega, show u + 0 = u by omega] at r
  have x3 := x3 rfl
  have bv := (hB dp nm nk hE).1 rfl
  have bb := up_b (fun c a e => by rw [x1 c a e]; exact hV c a e) bv x3
  have o := RR.o (dp := dp) (nm := nm) (T := T') (p := p) (a := b) (s := (V', H', n + 1, u)) (k := k) (v := T' (p + 2 * b + 1)) (by rw [hT _ (by omega) (by omega), hk]) rfl (by
    refine ⟨by omega, by show 0 ≤ n + 1; omega, by show n + 1 ≤ 330; omega, u0, by show u ≤ 330; omega, bb, fun w => by omega, ?_⟩
    refine ⟨by omega, by omega, fun _ _ => by show 1 ≤ n + 1; omega, ?_, ?_, ?_, ?_⟩ <;> omega)
  have t : stp dp nm k (T' (p + 2 * b + 1)) (V', H', n + 1, u) = (upf V' (n + 1 - 1) (if k = 5 then -(V' (n + 1 - 1)) else if k = 3 then dp (V' (n + 1 - 1)) else trd (V' (n + 1 - 1))), H', n + 1, u) := by
    unfold stp
    rw [if_neg (by omega), if_neg (by omega), if_pos (by omega)]
  rw [t, show n + 1 - 1 = n by omega, x3] at o
  rw [show n + 1 - 0 = n + 1 by omega, show u + 0 = u by omega]
  refine ⟨_, H', (r.t o), fun i a c => ?_, x2, fun _ => if_pos rfl, fun w => absurd w (by decide)⟩
  · show (if i = n then _ else V' i) = V i
    rw [if_neg (by omega)]; exact x1 i a c
/-- two numbers taken together -/
theorem RN.tw {T : Int → Int} {p a b c bd k : Int} {g g2 : SM} (hb : bd < 300) (hB : BD 0 g) (hB2 : BD 0 g2) (h : RN T p a b bd 0 g) (h2 : RN T p b c (bd + 1) 0 g2) (hk : T (p + 2 * c) = k) (k9 : 6 ≤ k ∧ k < 10) : RN T p a (c + 1) bd 0 (fun dp nm => two k (g dp nm) (g2 dp nm)) := by
  have ab := h.1
  have bc := h2.1
  refine ⟨by omega, fun T' dp nm nk V H n u hT hE n0 n1 u0 u1 hV => ?_⟩
  obtain ⟨V', H', r, x1, x2, x3, -⟩ := h.2 T' dp nm nk V H n u (fun i a c => hT i a (by omega)) hE n0 n1 u0 u1 hV
  rw [show n + 1 - 0 = n + 1 by omega, show u + 0 = u by omega] at r
  have x3 := x3 rfl
  have bb := up_b (fun c a e => by rw [x1 c a e]; exact hV c a e) ((hB dp nm nk hE).1 rfl) x3
  obtain ⟨W, I, r2, y1, y2, y3, -⟩ := h2.2 T' dp nm nk V' H' (n + 1) u (fun i a c => hT i (by omega) (by omega)) hE (by omega) (by omega) u0 (by omega) bb
  rw [show n + 1 + 1 - 0 = n + 1 + 1 by omega, show u + 0 = u by omega] at r2
  have y3 := y3 rfl
  have b2 := up_b (fun c a e => by rw [y1 c a e]; exact bb c a e) ((hB2 dp nm nk hE).1 rfl) y3
  have o := RR.o (dp := dp) (nm := nm) (T := T') (p := p) (a := c) (s := (W, I, n + 1 + 1, u)) (k := k) (v := T' (p + 2 * c + 1)) (by rw [hT _ (by omega) (by omega), hk]) rfl (by
    refine ⟨by omega, by show 0 ≤ n + 1 + 1; omega, by show n + 1 + 1 ≤ 330; omega, u0, by show u ≤ 330; omega, b2, fun w => by omega, ?_⟩
    refine ⟨by omega, by omega, fun _ _ => by omega, fun _ _ => by show 2 ≤ n + 1 + 1; omega, ?_, ?_, ?_⟩ <;> omega)
  have t : stp dp nm k (T' (p + 2 * c + 1)) (W, I, n + 1 + 1, u) = (upf W (n + 1 + 1 + -1 - 1) (two k (W (n + 1 + 1 + -1 - 1)) (W (n + 1 + 1 + -1))), I, n + 1 + 1 + -1, u) := by
    unfold stp
    rw [if_neg (by omega), if_neg (by omega), if_neg (by omega), if_pos (by omega)]
  rw [t, show n + 1 + 1 + -1 - 1 = n by omega, show n + 1 + 1 + -1 = n + 1 by omega, y3, y1 n (by omega) (by omega), x3] at o
  rw [show n + 1 - 0 = n + 1 by omega, show u + 0 = u by omega]
  refine ⟨_, I, ((r.t r2).t o), fun i a c => ?_, fun i a c => (y2 i a c).trans (x2 i a c), fun _ => if_pos rfl, fun w => absurd w (by decide)⟩
  · show (if i = n then _ else W i) = V i
    rw [if_neg (by omega), y1 i a (by omega)]; exact x1 i a c
/-- two numbers compared -/
theorem RN.cmp {T : Int → Int} {p a b c bd k : Int} {g g2 : SM} (hb : bd < 300) (hB : BD 0 g) (hB2 : BD 0 g2) (h : RN T p a b bd 0 g) (h2 : RN T p b c (bd + 1) 0 g2) (hk : T (p + 2 * c) = k) (k9 : 10 ≤ k ∧ k < 20) : RN T p a (c + 1) bd 1 (fun dp nm => askd k (g dp nm) (g2 dp nm)) := by
  have ab := h.1
  have bc := h2.1
  refine ⟨by omega, fun T' dp nm nk V H n u hT hE n0 n1 u0 u1 hV => ?_⟩
  obtain ⟨V', H', r, x1, x2, x3, -⟩ := h.2 T' dp nm nk V H n u (fun i a c => hT i a (by omega)) hE n0 n1 u0 u1 hV
  rw [show n + 1 - 0 = n + 1 by omega, show u + 0 = u by omega] at r
  have x3 := x3 rfl
  have bb := up_b (fun c a e => by rw [x1 c a e]; exact hV c a e) ((hB dp nm nk hE).1 rfl) x3
  obtain ⟨W, I, r2, y1, y2, y3, -⟩ := h2.2 T' dp nm nk V' H' (n + 1) u (fun i a c => hT i (by omega) (by omega)) hE (by omega) (by omega) u0 (by omega) bb
  rw [show n + 1 + 1 - 0 = n + 1 + 1 by omega, show u + 0 = u by omega] at r2
  have y3 := y3 rfl
  have b2 := up_b (fun c a e => by rw [y1 c a e]; exact bb c a e) ((hB2 dp nm nk hE).1 rfl) y3
  have o := RR.o (dp := dp) (nm := nm) (T := T') (p := p) (a := c) (s := (W, I, n + 1 + 1, u)) (k := k) (v := T' (p + 2 * c + 1)) (by rw [hT _ (by omega) (by omega), hk]) rfl (by
    refine ⟨by omega, by show 0 ≤ n + 1 + 1; omega, by show n + 1 + 1 ≤ 330; omega, u0, by show u ≤ 330; omega, b2, fun w => by omega, ?_⟩
    refine ⟨by omega, by omega, fun _ _ => by omega, fun _ _ => by show 2 ≤ n + 1 + 1; omega, fun _ _ => by show u < 330; omega, ?_, ?_⟩ <;> omega)
  have t : stp dp nm k (T' (p + 2 * c + 1)) (W, I, n + 1 + 1, u) = (W, upf I u (askd k (W (n + 1 + 1 + -2)) (W (n + 1 + 1 + -2 + 1))), n + 1 + 1 + -2, u + 1) := by
    unfold stp
    rw [if_neg (by omega), if_neg (by omega), if_neg (by omega), if_neg (by omega), if_pos (by omega)]
  rw [t, show n + 1 + 1 + -2 = n by omega, y3, y1 n (by omega) (by omega), x3] at o
  rw [show n + 1 - 1 = n by omega]
  refine ⟨W, _, ((r.t r2).t o), fun i a c => (y1 i a (by omega)).trans (x1 i a c), fun i a c => ?_, fun w => absurd w (by decide), fun _ => if_pos rfl⟩
  · show (if i = u then _ else I i) = H i
    rw [if_neg (by omega), y2 i a c]; exact x2 i a c
/-- a truth turned -/
theorem RN.not {T : Int → Int} {p a b bd : Int} {g : SM} (hb : bd < 300) (h : RN T p a b bd 1 g) (hk : T (p + 2 * b) = 20) : RN T p a (b + 1) bd 1 (fun dp nm => if g dp nm = 0 then 1 else 0) := by
  have ab := h.1
  refine ⟨by omega, fun T' dp nm nk V H n u hT hE n0 n1 u0 u1 hV => ?_⟩
  obtain ⟨V', H', r, x1, x2, -, x3⟩ := h.2 T' dp nm nk V H n u (fun i a c => hT i a (by omega)) hE n0 n1 u0 u1 hV
  rw [show n + 1 - 1 = n by omega] at r
  have x3 := x3 rfl
  have o := RR.o (dp := dp) (nm := nm) (T := T') (p := p) (a := b) (s := (V', H', n, u + 1)) (k := 20) (v := T' (p + 2 * b + 1)) (by rw [hT _ (by omega) (by omega), hk]) rfl (by
    refine ⟨by omega, n0, by show n ≤ 330; omega, by show 0 ≤ u + 1; omega, by show u + 1 ≤ 330; omega, fun c a e => by show -10000000 < V' c ∧ V' c < 10000000; rw [x1 c a e]; exact hV c a e, fun w => by omega, ?_⟩
    refine ⟨by omega, by omega, by omega, by omega, by omega, fun _ => by show 1 ≤ u + 1; omega, by omega⟩)
  have t : stp dp nm 20 (T' (p + 2 * b + 1)) (V', H', n, u + 1) = (V', upf H' (u + 1 - 1) (if H' (u + 1 - 1) = 0 then 1 else 0), n, u + 1) := by
    unfold stp
    rw [if_neg (by decide), if_neg (by decide), if_neg (by decide), if_neg (by decide), if_neg (by decide), if_pos rfl]
  rw [t, show u + 1 - 1 = u by omega, x3] at o
  rw [show n + 1 - 1 = n by omega]
  refine ⟨V', _, (r.t o), x1, fun i a c => ?_, fun w => absurd w (by decide), fun _ => if_pos rfl⟩
  · show (if i = u then _ else H' i) = H i
    rw [if_neg (by omega)]; exact x2 i a c
/-- two truths joined -/
theorem RN.jo {T : Int → Int} {p a b c bd k : Int} {g g2 : SM} (hb : bd < 300) (h : RN T p a b bd 1 g) (h2 : RN T p b c (bd + 1) 1 g2) (hk : T (p + 2 * c) = k) (k9 : k = 21 ∨ k = 22) : RN T p a (c + 1) bd 1 (fun dp nm => joi k (g dp nm) (g2 dp nm)) := by
  have ab := h.1
  have bc := h2.1
  refine ⟨by omega, fun T' dp nm nk V H n u hT hE n0 n1 u0 u1 hV => ?_⟩
  obtain ⟨V', H', r, x1, x2, -, x3⟩ := h.2 T' dp nm nk V H n u (fun i a c => hT i a (by omega)) hE n0 n1 u0 u1 hV
  rw [show n + 1 - 1 = n by omega] at r
  have x3 := x3 rfl
  obtain ⟨W, I, r2, y1, y2, -, y3⟩ := h2.2 T' dp nm nk V' H' n (u + 1) (fun i a c => hT i (by omega) (by omega)) hE n0 (by omega) (by omega) (by omega) (fun c a e => by rw [x1 c a e]; exact hV c a e)
  rw [show n + 1 - 1 = n by omega] at r2
  have y3 := y3 rfl
  have o := RR.o (dp := dp) (nm := nm) (T := T') (p := p) (a := c) (s := (W, I, n, u + 1 + 1)) (k := k) (v := T' (p + 2 * c + 1)) (by rw [hT _ (by omega) (by omega), hk]) rfl (by
    refine ⟨by omega, n0, by show n ≤ 330; omega, by show 0 ≤ u + 1 + 1; omega, by show u + 1 + 1 ≤ 330; omega, fun c a e => by show -10000000 < W c ∧ W c < 10000000; rw [y1 c a e, x1 c a e]; exact hV c a e, fun w => by omega, ?_⟩
    refine ⟨by omega, by omega, by omega, by omega, by omega, by omega, fun _ => by show 2 ≤ u + 1 + 1; omega⟩)
  have t : stp dp nm k (T' (p + 2 * c + 1)) (W, I, n, u + 1 + 1) = (W, upf I (u + 1 + 1 + -1 - 1) (joi k (I (u + 1 + 1 + -1 - 1)) (I (u + 1 + 1 + -1))), n, u + 1 + 1 + -1) := by
    unfold stp
    rw [if_neg (by omega), if_neg (by omega), if_neg (by omega), if_neg (by omega), if_neg (by omega), if_neg (by omega)]
  rw [t, show u + 1 + 1 + -1 - 1 = u by omega, show u + 1 + 1 + -1 = u + 1 by omega, y3, y2 u (by omega) (by omega), x3] at o
  rw [show n + 1 - 1 = n by omega]
  refine ⟨W, _, ((r.t r2).t o), fun i a c => (y1 i a c).trans (x1 i a c), fun i a c => ?_, fun w => absurd w (by decide), fun _ => if_pos rfl⟩
  · show (if i = u then _ else I i) = H i
    rw [if_neg (by omega), y2 i a (by omega)]; exact x2 i a c
/-- a choice: both are reckoned, one is taken -/
theorem RN.sel {T : Int → Int} {p a b c d bd : Int} {g g2 g3 : SM} (hb : bd < 300) (hB2 : BD 0 g2) (hB3 : BD 0 g3) (h : RN T p a b bd 1 g) (h2 : RN T p b c (bd + 1) 0 g2) (h3 : RN T p c d (bd + 1) 0 g3) (hk : T (p + 2 * d) = 4) : RN T p a (d + 1) bd 0 (fun dp nm => if g dp nm = 0 then g3 dp nm else g2 dp nm) := by
  have ab := h.1
  have bc := h2.1
  have cd := h3.1
  refine ⟨by omega, fun T' dp nm nk V H n u hT hE n0 n1 u0 u1 hV => ?_⟩
  obtain ⟨V', H', r, x1, x2, -, x3⟩ := h.2 T' dp nm nk V H n u (fun i a c => hT i a (by omega)) hE n0 n1 u0 u1 hV
  rw [show n + 1 - 1 = n by omega] at r
  have x3 := x3 rfl
  have b1 : ∀ c, 0 ≤ c → c < n → -10000000 < V' c ∧ V' c < 10000000 := fun c a e => by rw [x1 c a e]; exact hV c a e
  obtain ⟨W, I, r2, y1, y2, y3, -⟩ := h2.2 T' dp nm nk V' H' n (u + 1) (fun i a c => hT i (by omega) (by omega)) hE n0 (by omega) (by omega) (by omega) b1
  rw [show n + 1 - 0 = n + 1 by omega, show u + 1 + 0 = u + 1 by omega] at r2
  have y3 := y3 rfl
  have b2 := up_b (fun c a e => by rw [y1 c a e]; exact b1 c a e) ((hB2 dp nm nk hE).1 rfl) y3
  obtain ⟨Y, J, r3, z1, z2, z3, -⟩ := h3.2 T' dp nm nk W I (n + 1) (u + 1) (fun i a c => hT i (by omega) (by omega)) hE (by omega) (by omega) (by omega) (by omega) b2
  rw [show n + 1 + 1 - 0 = n + 1 + 1 by omega, show u + 1 + 0 = u + 1 by omega] at r3
  have z3 := z3 rfl
  have b3 := up_b (fun c a e => by rw [z1 c a e]; exact b2 c a e) ((hB3 dp nm nk hE).1 rfl) z3
  have o := RR.o (dp := dp) (nm := nm) (T := T') (p := p) (a := d) (s := (Y, J, n + 1 + 1, u + 1)) (k := 4) (v := T' (p + 2 * d + 1)) (by rw [hT _ (by omega) (by omega), hk]) rfl (by
    refine ⟨by omega, by show 0 ≤ n + 1 + 1; omega, by show n + 1 + 1 ≤ 330; omega, by show 0 ≤ u + 1; omega, by show u + 1 ≤ 330; omega, b3, fun w => by omega, ?_⟩
    refine ⟨by omega, fun _ => ⟨by show 2 ≤ n + 1 + 1; omega, by show 1 ≤ u + 1; omega⟩, fun _ _ => by show 1 ≤ n + 1 + 1; omega, by omega, by omega, by omega, by omega⟩)
  have t : stp dp nm 4 (T' (p + 2 * d + 1)) (Y, J, n + 1 + 1, u + 1) = (if J (u + 1 + -1) = 0 then upf Y (n + 1 + 1 + -1 - 1) (Y (n + 1 + 1 + -1)) else Y, J, n + 1 + 1 + -1, u + 1 + -1) := by
    unfold stp
    rw [if_neg (by decide), if_pos rfl]
  have eJ : J u = g dp nm := by rw [z2 u (by omega) (by omega), y2 u (by omega) (by omega), x3]
  rw [t, show n + 1 + 1 + -1 - 1 = n by omega, show n + 1 + 1 + -1 = n + 1 by omega, show u + 1 + -1 = u by omega, eJ, z3] at o
  rw [show n + 1 - 0 = n + 1 by omega, show u + 0 = u by omega]
  refine ⟨_, J, (((r.t r2).t r3).t o), fun i a c => ?_, fun i a c => ?_, fun _ => ?_, fun w => absurd w (by decide)⟩
  · show (if g dp nm = 0 then upf Y n (g3 dp nm) else Y) i = V i
    have e : Y i = V i := by rw [z1 i a (by omega), y1 i a (by omega)]; exact x1 i a c
    by_cases q : g dp nm = 0
    · rw [if_pos q]
      show (if i = n then _ else Y i) = V i
      rw [if_neg (by omega)]; exact e
    · rw [if_neg q]; exact e
  · rw [z2 i a (by omega), y2 i a (by omega)]; exact x2 i a c
  · show (if g dp nm = 0 then upf Y n (g3 dp nm) else Y) n = _
    by_cases q : g dp nm = 0
    · rw [if_pos q]
      show (if n = n then g3 dp nm else Y n) = if g dp nm = 0 then _ else _
      rw [if_pos rfl, if_pos q]
    · rw [if_neg q]
      show Y n = if g dp nm = 0 then _ else _
      rw [if_neg q, z1 n (by omega) (by omega), y3]
