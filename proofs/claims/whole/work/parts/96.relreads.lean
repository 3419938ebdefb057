theorem tb_bset {p : Int → Prop} [DecidablePred p] {e : Nat} (he : e < 32) : ∀ n : Nat, n ≤ 32 → (tb (bset p (fun c => c) n) e = true ↔ e < n ∧ p e) := by
  intro n
  induction n with
  | zero =>
    intro _
    rw [show bset p (fun c => c) 0 = 0 from rfl, tb_0]
    exact ⟨fun q => absurd q (by decide), fun q => absurd q.1 (Nat.not_lt_zero e)⟩
  | succ n ih =>
    intro hn
    have ih := ih (by omega)
    by_cases q : p n
    · rw [bset_t (p := p) (f := fun c => c) q, tb_or, Bool.or_eq_true, ih, tb_shl1 (by omega) he, decide_eq_true_iff]
      constructor
      · rintro (w | w)
        · exact ⟨by omega, w.2⟩
        · subst w; exact ⟨by omega, q⟩
      · intro ⟨w, v⟩
        by_cases z : e = n
        · exact Or.inr z
        · exact Or.inl ⟨by omega, v⟩
    · rw [bset_n (p := p) (f := fun c => c) q, ih]
      constructor
      · intro w; exact ⟨by omega, w.2⟩
      · intro ⟨w, v⟩
        by_cases z : e = n
        · subst z; exact absurd v q
        · exact ⟨by omega, v⟩
theorem rl_ow {C A : Me} (h : rlR C A) {n : Nat} (hn : A 430 14 = (n : Int)) {p : Int} : bset (fun c : Int => C 209 c = p) (fun c => c) n = bset (fun c : Int => A 430 (15 + 7 * c + 2) = p) (fun c => c) n := bset_c (fun i hi => by rw [(h.cr (c := i) (by omega) (by omega)).1.1]) (fun _ _ _ => rfl)
theorem rl_th2 {C A : Me} (h : rlR C A) {n : Nat} (hn : A 430 14 = (n : Int)) : bset (fun c : Int => C 52 c = 0) (fun c => c) n = bset (fun c : Int => A 430 (15 + 7 * c + 1) = 0) (fun c => c) n := rl_th h hn
theorem isum_k {p q : Int → Prop} [DecidablePred p] [DecidablePred q] {f g : Int → Int} : ∀ n : Nat, (∀ i : Nat, i < n → (p i ↔ q i)) → (∀ i : Nat, i < n → f i = g i) → isum p f n = isum q g n := by
  intro n
  induction n with
  | zero => intro _ _; rfl
  | succ n ih =>
    intro h hf
    have e := ih (fun i hi => h i (by omega)) (fun i hi => hf i (by omega))
    by_cases w : p n
    · rw [isum_t (p := p) (f := f) w, isum_t (p := q) (f := g) ((h n (by omega)).mp w), e, hf n (by omega)]
    · rw [isum_f (p := p) (f := f) w, isum_f (p := q) (f := g) (fun x => w ((h n (by omega)).mpr x)), e]
theorem rl_ws {C A : Me} (h : rlR C A) {n : Nat} (hn : A 430 14 = (n : Int)) {s : Int} : wsC C n s = isum (fun c : Int => and32 (shr32 s c) 1 = 1) (fun c : Int => A 430 (15 + 7 * c + 5)) n := isum_k n (fun _ _ => Iff.rfl) (fun i hi => (h.cr (c := i) (by omega) (by omega)).2.2.2.1)
/-- a year that has a CREASE -/
theorem rl_cra {C A : Me} (h : rlR C A) {n : Nat} (hn : A 430 14 = (n : Int)) {p y : Int} : and32 (owC C n p) (wiC C n y 1) ≠ 0 ↔ crA A n p y := by
  have w14 := wa_14 h.hy.1
  rw [and_ne]
  unfold owC wiC crA
  constructor
  · intro ⟨j, hj, a, b⟩
    rw [tb_and, Bool.and_eq_true, tb_bset hj n (by omega), tb_bset hj n (by omega)] at a
    rw [tb_bset hj n (by omega)] at b
    have k := h.cr (c := (j : Int)) (by omega) (by omega)
    exact ⟨j, b.1, by rw [← k.1.1]; exact a.1.2, by rw [← k.2.2.2.2.2.2.1]; exact a.2.2, by rw [← k.2.1]; omega⟩
  · intro ⟨j, hj, a, b, c⟩
    have k := h.cr (c := (j : Int)) (by omega) (by omega)
    refine ⟨j, by omega, ?_, ?_⟩
    · rw [tb_and, Bool.and_eq_true, tb_bset (by omega) n (by omega), tb_bset (by omega) n (by omega)]
      exact ⟨⟨hj, by rw [k.1.1]; exact a⟩, hj, by rw [k.2.2.2.2.2.2.1]; exact b⟩
    · rw [tb_bset (by omega) n (by omega)]
      exact ⟨hj, by rw [k.2.1]; omega⟩
theorem rl_ls {C A : Me} (h : rlR C A) {n : Nat} (hn : A 430 14 = (n : Int)) {p : Int} : ∀ y : Nat, lsC C n p y = spn (crA A n p) y := by
  intro y
  induction y with
  | zero => rfl
  | succ y ih =>
    have c := rl_cra h hn (p := p) (y := (y : Int))
    refine Prod.ext ?_ ?_
    · rw [spn_1]
      by_cases q : crA A n p y
      · rw [lsC_f (c.mpr q), spn_2t q, ih]
        show max _ (0 : Int) = _
        split <;> omega
      · rw [lsC_t (Classical.not_not.mp (fun w => q (c.mp w))), spn_2f q, ih]
        show max _ _ = _
        split <;> omega
    · by_cases q : crA A n p y
      · rw [lsC_f (c.mpr q), spn_2t q]
      · rw [lsC_t (Classical.not_not.mp (fun w => q (c.mp w))), spn_2f q, ih]
/-- OF a person -/
theorem v_of {C A : Me} (h : rlR C A) {n : Nat} (hn : A 430 14 = (n : Int)) {p u : Int} : foV C n p u = oOfV A n p u := by
  have s := h.sc
  unfold foV oOfV
  by_cases q : 0 ≤ p ∧ p < A 430 0
  · have k := h.pe q.1 q.2
    rw [s.2.1.2.2.1, if_neg (fun w => w q), if_pos (show 0 ≤ p ∧ p ≤ A 430 0 - 1 by omega), k.1, k.2.2, rl_ow h hn, rl_th2 h hn, rl_ws h hn, rl_ls h hn]
  · rw [s.2.1.2.2.1, if_pos q, if_neg (by omega)]
/-- OF a CREASE -/
theorem v_oc {C A : Me} (h : rlR C A) {n : Nat} (hn : A 430 14 = (n : Int)) {c u : Int} : fcV C c u = oOcV A n c u := by
  have s := h.sc
  unfold fcV oOcV
  by_cases q : 0 ≤ c ∧ c < A 430 14
  · have k := h.cr q.1 q.2
    rw [s.2.1.2.2.2.1, if_neg (fun w => w q), if_pos (show 0 ≤ c ∧ c ≤ A 430 14 - 1 by omega), s.1.2.2, lf_P h.lf hn q, lf_S h.lf hn q, lf_C h.lf hn q h.hy.2.1, k.1.1, k.2.1, k.2.2.2.1, k.2.2.2.2.1, k.2.2.2.2.2.2.1, k.2.2.2.2.2.2.2]
  · rw [s.2.1.2.2.2.1, if_pos q, if_neg (by omega)]
/-- the entries of the BOOK -/
theorem en_6 {e : Int} (h : 0 ≤ e ∧ e < 1000000) : shr32 e 6 = e / 64 ∧ and32 (shr32 e 2) 15 = e / 4 % 16 ∧ and32 e 3 = e % 4 := by
  have e6 : shr32 e 6 = e / 64 := shr32_n (k := 6) h.1 (by omega) (by decide)
  have e2 : shr32 e 2 = e / 4 := shr32_n (k := 2) h.1 (by omega) (by decide)
  refine ⟨e6, ?_, and32_mask 2 h.1 (by omega) (by decide)⟩
  rw [e2]
  exact and32_mask 4 (by omega) (by omega) (by decide)
theorem v_en {C A : Me} (h : rlR C A) {i u : Int} (hi : 0 ≤ i ∧ i < A 430 12) (hu : 0 ≤ u ∧ u ≤ 2) : enC C i u = ent0 (A 430 (2112 + i)) u := by
  have w12 := wa_12 h.hy.1
  have b := wk_0 h.hy.1 (c := i) (by omega)
  have e := h.1.2.1.o.2.2.2 i hi.1 (by omega)
  have x := en_6 (e := A 430 (2112 + i)) (by omega)
  unfold enC ent0
  rw [h.sc.2.1.2.2.2.2, if_pos hi, e, x.1, x.2.1, x.2.2]
  rcases (show u = 0 ∨ u = 1 ∨ u = 2 by omega) with q | q | q <;> subst q <;> rfl
def oBoV (A : Me) (i u : Int) : Int := if i = -1 then A 430 12 else if (0 ≤ i ∧ i ≤ A 430 12 - 1) ∧ (0 ≤ u ∧ u ≤ 2) then ent0 (A 430 (2112 + i)) u else -2
theorem v_bo {C A : Me} (h : rlR C A) {i u : Int} : fbV C i u = oBoV A i u := by
  unfold fbV oBoV
  rw [h.sc.2.1.2.2.2.2]
  by_cases q : i = -1
  · rw [if_pos q, if_pos q]
  · rw [if_neg q, if_neg q]
    by_cases w : (0 ≤ i ∧ i ≤ A 430 12 - 1) ∧ (0 ≤ u ∧ u ≤ 2)
    · rw [if_pos w]; exact v_en h (by omega) w.2
    · rw [if_neg w]
      unfold enC
      rw [h.sc.2.1.2.2.2.2]
      by_cases v : 0 ≤ i ∧ i < A 430 12
      · rw [if_pos v, if_neg (by omega), if_neg (by omega), if_neg (by omega)]
      · rw [if_neg v]
theorem fl1_c {p q : Int → Int → Prop} [∀ i s, Decidable (p i s)] [∀ i s, Decidable (q i s)] {v : Int → Int → Int} {s0 : Int} : ∀ n : Nat, (∀ i : Nat, i < n → (p i (fl1 q v s0 i) ↔ q i (fl1 q v s0 i))) → fl1 p v s0 n = fl1 q v s0 n := by
  intro n
  induction n with
  | zero => intro _; rfl
  | succ n ih =>
    intro h
    have e := ih (fun i hi => h i (by omega))
    by_cases w : q n (fl1 q v s0 n)
    · rw [fl1_t w, fl1_t (p := p) (by rw [e]; exact (h n (by omega)).mpr w), e]
    · rw [fl1_f w, fl1_f (p := p) (by rw [e]; exact fun x => w ((h n (by omega)).mp x)), e]
/-- the ELDEST -/
theorem v_el {C A : Me} (h : rlR C A) {n : Nat} (hn : A 430 14 = (n : Int)) {p : Int} : fl1 (fun c f : Int => (C 209 c = p ∧ C 52 c = 0) ∧ (f = -1 ∨ C 210 c < C 210 f)) (fun c _ => c) (-1) n = fl1 (fun c f : Int => (A 430 (15 + 7 * c + 2) = p ∧ A 430 (15 + 7 * c + 1) = 0) ∧ (f = -1 ∨ A 430 (15 + 7 * c + 3) < A 430 (15 + 7 * f + 3))) (fun c _ => c) (-1) n := by
  refine fl1_c n (fun i hi => ?_)
  have b := fl1_lt (p := fun c f : Int => (A 430 (15 + 7 * c + 2) = p ∧ A 430 (15 + 7 * c + 1) = 0) ∧ (f = -1 ∨ A 430 (15 + 7 * c + 3) < A 430 (15 + 7 * f + 3))) i
  generalize fl1 (fun c f : Int => (A 430 (15 + 7 * c + 2) = p ∧ A 430 (15 + 7 * c + 1) = 0) ∧ (f = -1 ∨ A 430 (15 + 7 * c + 3) < A 430 (15 + 7 * f + 3))) (fun c _ => c) (-1) i = f at b ⊢
  have k := h.cr (c := (i : Int)) (by omega) (by omega)
  rw [k.1.1, k.2.2.2.2.2.2.1, k.2.1]
  by_cases q : f = -1
  · exact ⟨fun w => ⟨w.1, Or.inl q⟩, fun w => ⟨w.1, Or.inl q⟩⟩
  · rw [(h.cr (c := f) (by omega) (by omega)).2.1]
/-- the tens of years -/
theorem v_te {C A : Me} (h : rlR C A) {n : Nat} (hn : A 430 14 = (n : Int)) {p : Int} : bset (fun c : Int => C 209 c = p ∧ C 52 c = 0) (fun c : Int => C 210 c / 10) n = bset (fun c : Int => A 430 (15 + 7 * c + 2) = p ∧ A 430 (15 + 7 * c + 1) = 0) (fun c : Int => A 430 (15 + 7 * c + 3) / 10) n :=
  bset_c (fun i hi => by have k := h.cr (c := (i : Int)) (by omega) (by omega); rw [k.1.1, k.2.2.2.2.2.2.1]) (fun i hi _ => by have k := h.cr (c := (i : Int)) (by omega) (by omega); show C 210 i / 10 = _; rw [k.2.1])
/-- BLANK -/
theorem v_bl {C A : Me} (h : rlR C A) {n : Nat} (hn : A 430 14 = (n : Int)) {m : Nat} : bset (fun p : Int => and32 (bset (fun c : Int => C 209 c = p) (fun c => c) n) (bset (fun c : Int => C 52 c = 0) (fun c => c) n) = 0) (fun p => p) m = bset (fun p : Int => and32 (bset (fun c : Int => A 430 (15 + 7 * c + 2) = p) (fun c => c) n) (bset (fun c : Int => A 430 (15 + 7 * c + 1) = 0) (fun c => c) n) = 0) (fun p => p) m :=
  bset_c (fun i hi => by rw [rl_ow h hn, rl_th2 h hn]) (fun _ _ _ => rfl)
/-- BEFELL -/
theorem v_be {C A : Me} (h : rlR C A) {nb : Nat} (hn : A 430 12 = (nb : Int)) {c u : Int} : isum (fun i : Int => (c = -1 ∨ enC C i 1 = c) ∧ enC C i 2 = u) (fun _ => 1) nb = isum (fun i : Int => ent0 (A 430 (2112 + i)) 2 = u ∧ (c = -1 ∨ ent0 (A 430 (2112 + i)) 1 = c)) (fun _ => 1) nb :=
  isum_k nb (fun i hi => by
    rw [v_en h (i := i) (u := 1) (by omega) (by decide), v_en h (i := i) (u := 2) (by omega) (by decide)]
    exact And.comm) (fun _ _ => rfl)
/-- HANGING -/
theorem v_ha {C A : Me} (h : rlR C A) {n : Nat} (hn : A 430 14 = (n : Int)) {c : Int} (hc : 0 ≤ c ∧ c < A 430 14) : C 214 c = hangT (tiA A) n c := (h.cr hc.1 hc.2).2.2.2.2.2.1.trans (by rw [show (A 430 14).toNat = n by omega])
