theorem CN.e {K : Int → Int} {a b bd : Int} {g f : SM} (h : CN K a b bd g) (e : ∀ dp nm nk : Int → Int, EV dp nm nk → g dp nm = f dp nm) : CN K a b bd f := ⟨h.1, fun K' len dp nm nk X n hK hl h0 hE n0 n1 => by
  obtain ⟨X', r, x1, x2⟩ := h.2 K' len dp nm nk X n hK hl h0 hE n0 n1
  exact ⟨X', r, x1, x2.trans (e dp nm nk hE)⟩⟩
theorem kp_cl {v : Int} : kpt v = clp v := by unfold kpt clp; (repeat' split) <;> omega
theorem mul_b {l r : Int} (hl : -1000000 ≤ l ∧ l ≤ 1000000) (hr : -1000000 ≤ r ∧ r ≤ 1000000) : -1000000000000 ≤ l * r ∧ l * r ≤ 1000000000000 := by
  have e : (l * r).natAbs = l.natAbs * r.natAbs := Int.natAbs_mul l r
  have h : l.natAbs * r.natAbs ≤ 1000000 * 1000000 := Nat.mul_le_mul (by omega) (by omega)
  omega
theorem div_b {l r : Int} (hl : -1000000 ≤ l ∧ l ≤ 1000000) : -1000000 ≤ l.tdiv r ∧ l.tdiv r ≤ 1000000 := by
  have h : (l.tdiv r).natAbs ≤ l.natAbs := by rw [Int.natAbs_tdiv]; exact Nat.div_le_self _ _
  omega
/-- what a sign makes of two, on both sides -/
theorem o2_two {k l r : Int} (hk : 6 ≤ k ∧ k < 10) (hl : -1000000 ≤ l ∧ l ≤ 1000000) (hr : -1000000 ≤ r ∧ r ≤ 1000000) : o2C k l r = two k l r := by
  unfold o2C two
  rcases (show k = 6 ∨ k = 7 ∨ k = 8 ∨ k = 9 by omega) with q | q | q | q <;> subst q
  · rw [if_pos rfl, if_pos rfl, w32_id (by omega), kp_cl]
  · rw [if_neg (by decide), if_pos rfl, if_neg (by decide), if_pos rfl, w32_id (by omega), kp_cl]
  · have m := mul_b hl hr
    rw [if_neg (by decide), if_neg (by decide), if_pos rfl, if_neg (by decide), if_neg (by decide), if_pos rfl, w64_id (by omega), kp_cl]
  · have d := div_b (r := r) hl
    simp only [reduceIte, Int.reduceEq]
    by_cases z : r = 0
    · rw [if_pos z, if_pos z]; rfl
    · rw [if_neg z, if_neg z, w32_id (by omega)]
      unfold clp
      rw [if_neg (by omega), if_neg (by omega)]
theorem o2_ask {k l r : Int} (hk : 10 ≤ k ∧ k ≤ 15) : o2C k l r = askd k l r := by
  unfold o2C askd
  rcases (show k = 10 ∨ k = 11 ∨ k = 12 ∨ k = 13 ∨ k = 14 ∨ k = 15 by omega) with q | q | q | q | q | q <;> subst q <;> simp only [reduceIte, Int.reduceEq]
theorem o2_joi {k k' l r : Int} (hk : (k = 42 ∧ k' = 21) ∨ (k = 43 ∧ k' = 22)) (hl : 0 ≤ l ∧ l ≤ 1) (hr : 0 ≤ r ∧ r ≤ 1) : o2C k l r = joi k' l r := by
  rcases hk with ⟨q, w⟩ | ⟨q, w⟩ <;> subst q <;> subst w <;> rcases (show l = 0 ∨ l = 1 by omega) with a | a <;> rcases (show r = 0 ∨ r = 1 by omega) with b | b <;> subst a <;> subst b <;> decide
theorem tbS_t : ∀ (f g : Nat) (u r : Int), 0 ≤ u → u < ten f → 0 ≤ r → r < ten g → f + g ≤ 8 → tbS f u r = trn f u r := by
  intro f
  induction f with
  | zero => intro g u r _ _ _ _ _; rfl
  | succ f ih =>
    intro g u r h1 h2 h3 h4 h5
    have e : ten (f + 1) = 10 * ten f := rfl
    have e2 : ten (g + 1) = 10 * ten g := rfl
    have t8 : ten (g + 1) ≤ 100000000 := by
      have : ∀ i : Nat, i ≤ 8 → ten i ≤ 100000000 := by decide
      exact this _ (by omega)
    unfold tbS trn
    by_cases q : 0 < u
    · rw [if_pos q, if_pos q, w32_id (x := r * 10) (by omega), w32_id (by omega), show r * 10 + u % 10 = 10 * r + u % 10 by omega]
      exact ih (g + 1) (u / 10) (10 * r + u % 10) (by omega) (by omega) (by omega) (by omega) (by omega)
    · rw [if_neg q, if_neg q]
theorem tbS_m : ∀ (f : Nat) (u r : Int), 0 ≤ u → u < ten f → tbS (f + 1) u r = tbS f u r := by
  intro f
  induction f with
  | zero => intro u r h1 h2; have h2 : u < 1 := h2; exact if_neg (by omega)
  | succ f ih =>
    intro u r h1 h2
    have e : ten (f + 1) = 10 * ten f := rfl
    show (if 0 < u then tbS (f + 1) (u / 10) _ else r) = if 0 < u then tbS f (u / 10) _ else r
    by_cases q : 0 < u
    · rw [if_pos q, if_pos q]; exact ih _ _ (by omega) (by omega)
    · rw [if_neg q, if_neg q]
theorem trn_m : ∀ (f : Nat) (u r : Int), 0 ≤ u → u < ten f → trn (f + 1) u r = trn f u r := by
  intro f
  induction f with
  | zero => intro u r h1 h2; have h2 : u < 1 := h2; exact if_neg (by omega)
  | succ f ih =>
    intro u r h1 h2
    have e : ten (f + 1) = 10 * ten f := rfl
    show (if 0 < u then trn (f + 1) (u / 10) _ else r) = if 0 < u then trn f (u / 10) _ else r
    by_cases q : 0 < u
    · rw [if_pos q, if_pos q]; exact ih _ _ (by omega) (by omega)
    · rw [if_neg q, if_neg q]
/-- a number turned about -/
theorem tu_eq {v : Int} (h : -1000000 ≤ v ∧ v ≤ 1000000) : (if 0 ≤ ab1 v then tbS 10 (ab1 v) 0 else 0) = trd v ∧ 0 ≤ trd v ∧ trd v ≤ 1000000 := by
  have ea : ab1 v = if v < 0 then -v else v := by
    unfold ab1
    by_cases q : 0 ≤ v
    · rw [if_pos q, if_neg (by omega)]
    · rw [if_neg q, if_pos (by omega), w32_id (by omega)]; omega
  unfold trd
  rw [← ea]
  have ub : 0 ≤ ab1 v ∧ ab1 v ≤ 1000000 := by rw [ea]; split <;> omega
  generalize ab1 v = u at ub
  have e7 : ten 7 = 10000000 := rfl
  have e8 : ten 8 = 100000000 := rfl
  have e9 : ten 9 = 1000000000 := rfl
  rw [if_pos ub.1, tbS_m 9 u 0 ub.1 (by omega), tbS_m 8 u 0 ub.1 (by omega), tbS_t 8 0 u 0 ub.1 (by omega) (Int.le_refl 0) (by decide) (by decide)]
  refine ⟨rfl, ?_⟩
  by_cases q : u = 1000000
  · subst q; decide
  · have e6 : ten 6 = 1000000 := rfl
    rw [trn_m 7 u 0 ub.1 (by omega), trn_m 6 u 0 ub.1 (by omega)]
    have b := trn_b 6 0 u 0 ub.1 (by omega) (Int.le_refl 0) (by decide)
    have e : ten (0 + 6) = 1000000 := rfl
    omega
/-- a part of a law in both codes, that says the same -/
def SEG (K T : Int → Int) (p c0 c1 w0 w1 bd tr : Int) : Prop := ∃ g : SM, CN K c0 c1 bd g ∧ RN T p w0 w1 bd tr g ∧ BD tr g
theorem SEG.c {K L T U : Int → Int} {p c0 c1 w0 w1 bd tr : Int} (h : SEG K T p c0 c1 w0 w1 bd tr) (e : ∀ i, c0 ≤ i → i < c1 → L i = K i) (e2 : ∀ i, p + 2 * w0 ≤ i → i < p + 2 * w1 → U i = T i) : SEG L U p c0 c1 w0 w1 bd tr := by
  obtain ⟨g, h1, h2, h3⟩ := h
  exact ⟨g, h1.c e, h2.c e2, h3⟩
theorem SEG.num {K T : Int → Int} {p c w bd v : Int} (hb : bd < 63) (hv : 0 ≤ v ∧ v ≤ 9999) (h : K c = or32 (shl32 v 6) 2) (h1 : T (p + 2 * w) = 0) (h2 : T (p + 2 * w + 1) = v) : SEG K T p c (c + 1) w (w + 1) bd 0 :=
  ⟨_, CN.num (by omega) h (by omega), RN.num (by omega) h1 h2, fun _ _ _ _ => ⟨fun _ => by show -1000000 ≤ v ∧ v ≤ 1000000; omega, fun w => absurd w (by decide)⟩⟩
theorem SEG.nam {K T : Int → Int} {p c w bd k v : Int} (hb : bd < 63) (hv : 0 ≤ v ∧ v ≤ 10000) (hk : 25 ≤ k ∧ k ≤ 33) (h : K c = or32 (shl32 v 6) k) (h1 : T (p + 2 * w) = 1) (h2 : T (p + 2 * w + 1) = sgm k) : SEG K T p c (c + 1) w (w + 1) bd 0 := by
  have s := sgm_b hk.1 hk.2
  exact ⟨_, CN.nam (by omega) h hv hk, RN.nam (by omega) h1 h2 s, fun _ nm _ hE => ⟨fun _ => by have := hE.2.1 (sgm k) s.1 s.2; show -1000000 ≤ nm (sgm k) ∧ nm (sgm k) ≤ 1000000; omega, fun w => absurd w (by decide)⟩⟩
theorem SEG.one {K T : Int → Int} {p c0 c1 w0 w1 bd k k' : Int} (hb : bd < 63) (h : SEG K T p c0 c1 w0 w1 bd 0) (hk : (k = 44 ∧ k' = 5) ∨ (k = 35 ∧ k' = 2) ∨ (k = 36 ∧ k' = 3)) (h1 : K c1 = or32 (shl32 0 6) k) (h2 : T (p + 2 * w1) = k') : SEG K T p c0 (c1 + 1) w0 (w1 + 1) bd 0 := by
  obtain ⟨g, a, b, d⟩ := h
  refine ⟨_, (CN.one (by omega) a h1 (by omega)).e (fun dp nm nk hE => ?_), RN.one (by omega) d b h2 (by omega), fun dp nm nk hE => ⟨fun _ => ?_, fun w => absurd w (by decide)⟩⟩
  · have v := (d dp nm nk hE).1 rfl
    show o1C dp k (g dp nm) = if k' = 5 then -(g dp nm) else if k' = 3 then dp (g dp nm) else trd (g dp nm)
    generalize g dp nm = u at v
    unfold o1C
    rcases hk with ⟨q, w⟩ | ⟨q, w⟩ | ⟨q, w⟩ <;> subst q <;> subst w <;> simp only [reduceIte, Int.reduceEq]
    · exact w32_id (by omega)
    · exact (tu_eq v).1
  · have v := (d dp nm nk hE).1 rfl
    have dv := hE.1 (g dp nm)
    have tv := (tu_eq v).2
    show -1000000 ≤ (if k' = 5 then -(g dp nm) else if k' = 3 then dp (g dp nm) else trd (g dp nm)) ∧ (if k' = 5 then -(g dp nm) else if k' = 3 then dp (g dp nm) else trd (g dp nm)) ≤ 1000000
    split
    · omega
    · split
      · omega
      · omega
theorem SEG.two {K T : Int → Int} {p c0 c1 c2 w0 w1 w2 bd k : Int} (hb : bd < 62) (h : SEG K T p c0 c1 w0 w1 bd 0) (h2 : SEG K T p c1 c2 w1 w2 (bd + 1) 0) (hk : 6 ≤ k ∧ k < 10) (h3 : K c2 = or32 (shl32 0 6) k) (h4 : T (p + 2 * w2) = k) : SEG K T p c0 (c2 + 1) w0 (w2 + 1) bd 0 := by
  obtain ⟨g, a, b, d⟩ := h
  obtain ⟨g2, a2, b2, d2⟩ := h2
  exact ⟨_, (CN.two (by omega) a a2 h3 (by omega)).e (fun dp nm nk hE => o2_two hk ((d dp nm nk hE).1 rfl) ((d2 dp nm nk hE).1 rfl)), RN.tw (by omega) d d2 b b2 h4 hk, fun dp nm nk hE => ⟨fun _ => clp_b, fun w => absurd w (by decide)⟩⟩
theorem SEG.cmp {K T : Int → Int} {p c0 c1 c2 w0 w1 w2 bd k : Int} (hb : bd < 62) (h : SEG K T p c0 c1 w0 w1 bd 0) (h2 : SEG K T p c1 c2 w1 w2 (bd + 1) 0) (hk : 10 ≤ k ∧ k ≤ 15) (h3 : K c2 = or32 (shl32 0 6) k) (h4 : T (p + 2 * w2) = k) : SEG K T p c0 (c2 + 1) w0 (w2 + 1) bd 1 := by
  obtain ⟨g, a, b, d⟩ := h
  obtain ⟨g2, a2, b2, d2⟩ := h2
  exact ⟨_, (CN.two (by omega) a a2 h3 (by omega)).e (fun dp nm nk hE => o2_ask hk), RN.cmp (by omega) d d2 b b2 h4 (by omega), fun dp nm nk hE => ⟨fun w => absurd w (by decide), fun _ => askd_01⟩⟩
theorem SEG.joi {K T : Int → Int} {p c0 c1 c2 w0 w1 w2 bd k k' : Int} (hb : bd < 62) (h : SEG K T p c0 c1 w0 w1 bd 1) (h2 : SEG K T p c1 c2 w1 w2 (bd + 1) 1) (hk : (k = 42 ∧ k' = 21) ∨ (k = 43 ∧ k' = 22)) (h3 : K c2 = or32 (shl32 0 6) k) (h4 : T (p + 2 * w2) = k') : SEG K T p c0 (c2 + 1) w0 (w2 + 1) bd 1 := by
  obtain ⟨g, a, b, d⟩ := h
  obtain ⟨g2, a2, b2, d2⟩ := h2
  exact ⟨_, (CN.two (by omega) a a2 h3 (by omega)).e (fun dp nm nk hE => o2_joi hk ((d dp nm nk hE).2 rfl) ((d2 dp nm nk hE).2 rfl)), RN.jo (by omega) b b2 h4 (by omega), fun dp nm nk hE => ⟨fun w => absurd w (by decide), fun _ => joi_01⟩⟩
theorem SEG.not {K T : Int → Int} {p c0 c1 w0 w1 bd : Int} (hb : bd < 63) (h : SEG K T p c0 c1 w0 w1 bd 1) (h1 : K c1 = or32 (shl32 0 6) 41) (h2 : T (p + 2 * w1) = 20) : SEG K T p c0 (c1 + 1) w0 (w1 + 1) bd 1 := by
  obtain ⟨g, a, b, d⟩ := h
  exact ⟨_, (CN.one (by omega) a h1 (by omega)).e (fun dp nm nk hE => rfl), RN.not (by omega) b h2, fun dp nm nk hE => ⟨fun w => absurd w (by decide), fun _ => by
    show 0 ≤ (if g dp nm = 0 then 1 else 0) ∧ (if g dp nm = 0 then 1 else 0) ≤ (1 : Int)
    split <;> omega⟩⟩
theorem SEG.cho {K T : Int → Int} {p c0 c1 c2 c3 w0 w1 w2 w3 bd : Int} (hb : bd < 62) (h0 : 0 ≤ c0) (h9 : c3 ≤ 300) (h : SEG K T p c0 c1 w0 w1 bd 1) (ht : K c1 = or32 (shl32 (c2 + 1) 6) 38) (h2 : SEG K T p (c1 + 1) c2 w1 w2 (bd + 1) 0) (hl : K c2 = or32 (shl32 c3 6) 39) (h3 : SEG K T p (c2 + 1) c3 w2 w3 (bd + 1) 0) (h4 : T (p + 2 * w3) = 4) : SEG K T p c0 c3 w0 (w3 + 1) bd 0 := by
  obtain ⟨g, a, b, d⟩ := h
  obtain ⟨g2, a2, b2, d2⟩ := h2
  obtain ⟨g3, a3, b3, d3⟩ := h3
  have w : ∀ {a b : Int} {g : SM}, CN K a b (bd + 1) g → CN K a b bd g := fun h => ⟨h.1, fun K' len dp nm nk X n hK hl h0 hE n0 n1 => h.2 K' len dp nm nk X n hK hl h0 hE n0 (by omega)⟩
  refine ⟨_, CN.cho (by omega) h0 h9 a ht (w a2) hl (w a3), RN.sel (by omega) d2 d3 b b2 b3 h4, fun dp nm nk hE => ⟨fun _ => ?_, fun w => absurd w (by decide)⟩⟩
  have v2 := (d2 dp nm nk hE).1 rfl
  have v3 := (d3 dp nm nk hE).1 rfl
  show -1000000 ≤ (if g dp nm = 0 then g3 dp nm else g2 dp nm) ∧ (if g dp nm = 0 then g3 dp nm else g2 dp nm) ≤ 1000000
  split <;> omega
