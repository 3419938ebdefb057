theorem isum_z {p : Int → Prop} [DecidablePred p] {f : Int → Int} : ∀ n : Nat, (∀ i : Nat, i < n → ¬ p i) → isum p f n = 0 := by
  intro n
  induction n with
  | zero => intro _; rfl
  | succ n ih => intro h; rw [isum_f (h n (by omega)), ih (fun i hi => h i (by omega))]; rfl
theorem isum_mono {p q : Int → Prop} [DecidablePred p] [DecidablePred q] : ∀ n : Nat, (∀ i : Nat, i < n → p i → q i) → isum p (fun _ => 1) n ≤ isum q (fun _ => 1) n := by
  intro n
  induction n with
  | zero => intro _; exact Int.le_refl 0
  | succ n ih =>
    intro h
    have i := ih (fun i hi => h i (by omega))
    by_cases w : p n
    · rw [isum_t (f := fun _ => 1) w, isum_t (f := fun _ => 1) (h n (by omega) w)]; omega
    · rw [isum_f (f := fun _ => 1) w]
      by_cases w2 : q n
      · rw [isum_t (f := fun _ => 1) w2]; omega
      · rw [isum_f (f := fun _ => 1) w2]; omega
theorem isum_to {p : Int → Prop} [DecidablePred p] {f : Int → Int} {n : Nat} : ∀ d : Nat, (∀ i : Nat, n ≤ i → i < n + d → ¬ p i) → isum p f (n + d) = isum p f n := by
  intro d
  induction d with
  | zero => intro _; rfl
  | succ d ih =>
    intro h
    rw [show n + (d + 1) = n + d + 1 from rfl, isum_f (h (n + d) (by omega) (by omega)), ih (fun i a b => h i a (by omega))]
    omega
theorem min_ex {p : Nat → Prop} {Y : Int → Int} : ∀ n : Nat, (∃ c : Nat, c < n ∧ p c) → ∃ c : Nat, c < n ∧ p c ∧ ∀ e : Nat, e < n → p e → Y c ≤ Y e := by
  intro n
  induction n with
  | zero => rintro ⟨c, h, -⟩; exact absurd h (Nat.not_lt_zero c)
  | succ n ih =>
    rintro ⟨c, h, hp⟩
    by_cases q : ∃ c : Nat, c < n ∧ p c
    · obtain ⟨d, d1, d2, d3⟩ := ih q
      by_cases w : p n ∧ Y n < Y d
      · refine ⟨n, by omega, w.1, fun e h1 h2 => ?_⟩
        by_cases g : e = n
        · subst g; exact Int.le_refl _
        · have := d3 e (by omega) h2; omega
      · refine ⟨d, by omega, d2, fun e h1 h2 => ?_⟩
        by_cases g : e = n
        · subst g
          have : ¬ Y e < Y d := fun g => w ⟨h2, g⟩
          omega
        · exact d3 e (by omega) h2
    · have ec : c = n := by
        by_cases g : c = n
        · exact g
        · exact absurd ⟨c, by omega, hp⟩ q
      subst ec
      refine ⟨c, by omega, hp, fun e h1 h2 => ?_⟩
      by_cases g : e = c
      · subst g; exact Int.le_refl _
      · exact absurd ⟨e, by omega, h2⟩ q
theorem bit_nat {x j : Nat} (hx : x < 2147483648) (hj : j < 32) : and32 (shr32 (x : Int) (j : Int)) 1 = ((x / 2 ^ j % 2 : Nat) : Int) := by
  rw [shr32_n (by omega) (by omega) hj]
  have e : (x : Int) / ((2 ^ j : Nat) : Int) = ((x / 2 ^ j : Nat) : Int) := rfl
  rw [e]
  have l := Nat.div_le_self x (2 ^ j)
  generalize x / 2 ^ j = y at l
  exact and32_mask (x := (y : Int)) 1 (by omega) (by omega) (by decide)
/-- how many bits, by a sum -/
theorem pcn_isum {x : Nat} (hx : x < 4096) : isum (fun c : Int => and32 (shr32 (x : Int) c) 1 = 1) (fun _ => 1) 12 = (pcn x : Int) := by
  have e : ∀ m : Nat, m ≤ 12 → isum (fun c : Int => and32 (shr32 (x : Int) c) 1 = 1) (fun _ => 1) m = (((List.range m).foldl (fun s j => s + x / 2 ^ j % 2) 0 : Nat) : Int) := by
    intro m
    induction m with
    | zero => intro _; rfl
    | succ m ih =>
      intro hm
      have i := ih (by omega)
      have b := bit_nat (x := x) (j := m) (by omega) (by omega)
      rw [List.range_succ, List.foldl_append]
      show _ = (((List.range m).foldl (fun s j => s + x / 2 ^ j % 2) 0 + x / 2 ^ m % 2 : Nat) : Int)
      have l := Nat.mod_lt (x / 2 ^ m) (show 2 > 0 by decide)
      by_cases w : and32 (shr32 (x : Int) (m : Int)) 1 = 1
      · rw [isum_t (p := fun c : Int => and32 (shr32 (x : Int) c) 1 = 1) (f := fun _ => 1) w, i]
        rw [b] at w
        omega
      · rw [isum_f (p := fun c : Int => and32 (shr32 (x : Int) c) 1 = 1) (f := fun _ => 1) w, i]
        rw [b] at w
        omega
  exact e 12 (Nat.le_refl 12)
theorem has_nat {x : Nat} (hx : x < 4096) {j : Nat} (hj : 12 ≤ j) (hj2 : j < 32) : tb (x : Int) j = false := by
  cases h : tb (x : Int) j
  · rfl
  · have h2 := (tb_has hj2).mpr h
    rw [bit_nat (by omega) hj2] at h2
    have : x / 2 ^ j = 0 := Nat.div_eq_of_lt (Nat.lt_of_lt_of_le hx (Nat.pow_le_pow_right (n := 2) (by decide) hj))
    rw [this] at h2
    exact absurd h2 (by decide)
/-- those of a set that are near a CREASE, by bits and by a sum -/
theorem near_eq {C A : Me} (h : rlR C A) {n : Nat} (hn : A 430 14 = (n : Int)) {p w : Int} {s : Nat} (hs : s < 4096) (hsub : ∀ j : Nat, j < 32 → tb (s : Int) j = true → tb (owC C n p) j = true) {c : Int} (hc : 0 ≤ c ∧ c < n) : (pcn (and32 (s : Int) (nrC C n p w c)).toNat : Int) = ywA A n s w (A 430 (15 + 7 * c + 3)) n := by
  have n12 : n ≤ 12 := by have := (wa_14 h.hy.1).2; omega
  have nb := nrC_b (M := C) (p := p) (w := w) (i := c) n12
  have ab := and32_12 (x := (s : Int)) nb
  obtain ⟨X, hX⟩ := Int.eq_ofNat_of_zero_le ab.1
  rw [hX]
  show (pcn X : Int) = _
  have hX2 : X < 4096 := by have := ab.2; omega
  rw [← pcn_isum hX2, show (X : Int) = and32 (s : Int) (nrC C n p w c) from hX.symm]
  have cy : C 210 c = A 430 (15 + 7 * c + 3) := (h.cr hc.1 (by omega)).2.1
  have key : ∀ e : Nat, e < 32 → (and32 (shr32 (and32 (s : Int) (nrC C n p w c)) e) 1 = 1 ↔ (e < n ∧ and32 (shr32 (s : Int) e) 1 = 1 ∧ (A 430 (15 + 7 * c + 3) ≤ A 430 (15 + 7 * e + 3) ∧ A 430 (15 + 7 * e + 3) ≤ A 430 (15 + 7 * c + 3) + w - 1))) := fun e he => by
    rw [tb_has he, tb_has he, tb_and]
    unfold nrC
    rw [tb_and, Bool.and_eq_true, Bool.and_eq_true]
    unfold wiC
    rw [tb_bset he n (by omega), cy]
    constructor
    · rintro ⟨q1, q2, q3, q4⟩
      rw [(h.cr (c := (e : Int)) (by omega) (by omega)).2.1] at q4
      exact ⟨q3, q1, q4.1, by omega⟩
    · rintro ⟨q1, q2, q3⟩
      refine ⟨q2, hsub e he q2, q1, ?_⟩
      rw [(h.cr (c := (e : Int)) (by omega) (by omega)).2.1]
      exact ⟨q3.1, by omega⟩
  obtain ⟨d, hd⟩ : ∃ d : Nat, 12 = n + d := ⟨12 - n, by omega⟩
  rw [hd, isum_to d (fun i q0 q1 q2 => by have := ((key i (by omega)).mp q2).1; omega)]
  unfold ywA
  exact isum_k n (fun i hi => by rw [key i (by omega)]; exact ⟨fun q => q.2, fun q => ⟨hi, q⟩⟩) (fun _ _ => rfl)
/-- flat on both sides -/
theorem fl_eq {C A : Me} (h : rlR C A) {n : Nat} (hn : A 430 14 = (n : Int)) {p k w : Int} (hk : 0 ≤ k) (hw : 1 ≤ w) {s : Nat} (hs : s < 4096) (hsub : ∀ j : Nat, j < 32 → tb (s : Int) j = true → tb (owC C n p) j = true) : flt A n s k w 100 ↔ ftP (fun c => ffR C n p w 13 c) k s n := by
  have n12 : n ≤ 12 := by have := (wa_14 h.hy.1).2; omega
  have eR : ∀ c : Nat, c < n → ffR C n p w 13 (c : Int) = nrC C n p w c := fun c hc => by
    unfold ffR
    exact rd_rX (by omega) (if_pos (by omega))
  have yb : ∀ c : Nat, c < n → 0 ≤ A 430 (15 + 7 * (c : Int) + 3) ∧ A 430 (15 + 7 * (c : Int) + 3) ≤ 99 := fun c hc => wc_3 h.hy.1 (by omega)
  constructor
  · intro q c hc hb
    show (pcn (and32 (s : Int) (ffR C n p w 13 (c : Int))).toNat : Int) ≤ k
    rw [eR c hc, near_eq h hn hs hsub (by omega)]
    obtain ⟨y, hy⟩ := Int.eq_ofNat_of_zero_le (yb c hc).1
    have := q y (by have := (yb c hc).2; omega)
    rw [hy]; exact this
  · intro q yr hyr
    refine Classical.byContradiction fun g => ?_
    have ex : ∃ c : Nat, c < n ∧ (and32 (shr32 (s : Int) c) 1 = 1 ∧ ((yr : Int) ≤ A 430 (15 + 7 * (c : Int) + 3) ∧ A 430 (15 + 7 * (c : Int) + 3) ≤ yr + w - 1)) := Classical.byContradiction fun e => by
      have z : ywA A n s w yr n = 0 := isum_z n (fun i hi w => e ⟨i, hi, w⟩)
      omega
    obtain ⟨c, c1, c2, c3⟩ := min_ex (Y := fun c => A 430 (15 + 7 * c + 3)) n ex
    have q1 := q c c1 c2.1
    change (pcn (and32 (s : Int) (ffR C n p w 13 (c : Int))).toNat : Int) ≤ k at q1
    rw [eR c c1, near_eq h hn hs hsub (by omega)] at q1
    have m : ywA A n s w yr n ≤ ywA A n s w (A 430 (15 + 7 * (c : Int) + 3)) n := isum_mono n (fun i hi q => ⟨q.1, c3 i hi q, by have := c2.2.1; have := q.2.2; omega⟩)
    omega
theorem rl_own {C A : Me} (h : rlR C A) {n : Nat} (hn : A 430 14 = (n : Int)) {p : Int} : owC C n p = ownA A n p := by
  unfold owC ownA
  rw [rl_ow h hn, rl_th2 h hn]
/-- FLAT: the set -/
theorem v_fl {C A : Me} (h : rlR C A) {n : Nat} (hn : A 430 14 = (n : Int)) {p k w : Int} (hk : 0 ≤ k) (hw : 1 ≤ w) {t : Nat} (ht : t < 4096) (hal : ownA A n p = (t : Int)) : flS (fun c => ffR C n p w 13 c) n (owC C n p) k (2 ^ pcn (owC C n p).toNat) = fpf A n t k w (t + 1) := by
  have eT : owC C n p = (t : Int) := (rl_own h hn).trans hal
  have run := sub_run ht (R := fun s i => fpf A n t k w s = flS (fun c => ffR C n p w 13 c) n (owC C n p) k i) rfl
    (fun s i hs q r => by
      refine (fpf_f (fun w => q ?_)).trans r
      exact (sub_tb (by omega) ht).mpr (an_not.mp w.2.1))
    (fun s i hs q e r => by
      have eS : sbC (owC C n p) i = (s : Int) := by rw [eT, sbC_N ht, e]
      have sb := (sub_tb (by omega) ht).mp q
      have fe := fl_eq h hn (p := p) hk hw (s := s) (by omega) (by rw [eT]; exact sb)
      by_cases g : pcn (flS (fun c => ffR C n p w 13 c) n (owC C n p) k i).toNat < pcn (s : Int).toNat ∧ ftP (fun c => ffR C n p w 13 c) k s n
      · have s1 : (s : Int) ≠ 0 := fun z => by
          have := g.1
          rw [z, show pcn (0 : Int).toNat = 0 from rfl] at this
          omega
        rw [flS_t (by rw [eS]; exact g), eS]
        exact fpf_t ⟨s1, an_not.mpr sb, by rw [r]; exact g.1, fe.mpr g.2⟩
      · rw [flS_f (by rw [eS]; exact g)]
        exact (fpf_f (fun w => g ⟨by have := w.2.2.1; rwa [r] at this, fe.mp w.2.2.2⟩)).trans r)
  rw [show (owC C n p).toNat = t by rw [eT]; rfl]
  exact run.symm
/-- FLAT -/
theorem op_flat {M : Me} (h : INV M) {p k w : Int} : OpR kX10_flat kX11_flat 3 3 [(0, p), (0, k), (0, w)] M := by
  obtain ⟨hn, hn12⟩ := h.1.hy.n
  have c3 : M 50 3 = (nC M : Int) := h.1.sc.2.1.2.2.2.1.trans hn
  have c2 : M 50 2 = M 430 0 := h.1.sc.2.1.2.2.1
  have bT := owC_b (M := M) (p := p) hn12
  obtain ⟨t, ht⟩ := Int.eq_ofNat_of_zero_le bT.1
  have ht : owC M (nC M) p = (t : Int) := ht
  have hT : ownA M (nC M) p = (t : Int) := (rl_own h.1 hn).symm.trans ht
  have tl : t < 4096 := by have := bT.2; omega
  have fo : ∀ a j : Int, a ≠ 13 → fflM M (nC M) p k w a j = M a j := fun a j q => by
    unfold fflM ffR
    split
    · rfl
    · exact row1_o (by omega)
  have e430 : fflM M (nC M) p k w 430 = M 430 := funext fun j => fo 430 j (by decide)
  have own : ownA (fflM M (nC M) p k w) (nC M) p = (t : Int) := by
    have : ownA (fflM M (nC M) p k w) (nC M) p = ownA M (nC M) p := by unfold ownA; rw [e430]
    rw [this]; exact hT
  have fpe : ∀ u : Nat, fpf (fflM M (nC M) p k w) (nC M) t k w u = fpf M (nC M) t k w u := fun u => by
    induction u with
    | zero => rfl
    | succ u ih =>
      have ep : fpp (fflM M (nC M) p k w) (nC M) t k w u (fpf (fflM M (nC M) p k w) (nC M) t k w u) ↔ fpp M (nC M) t k w u (fpf M (nC M) t k w u) := by
        rw [ih]
        unfold fpp flt ywA
        rw [e430]
      by_cases g : fpp M (nC M) t k w u (fpf M (nC M) t k w u)
      · rw [fpf_t g, fpf_t (ep.mpr g)]
      · rw [fpf_f g, fpf_f (fun w => g (ep.mp w)), ih]
  refine OpR.mk (f := fflM M (nC M) p k w) (g := fflM M (nC M) p k w) (v := some (0, fflV M (nC M) p k w)) h (fun x y z => ⟨x, y, z, f_flat h.1.ci c3 hn12⟩) (fun a j q => fo a j (by omega)) (fun h1 x y z => ?_) (fun _ _ _ _ => rfl) (fun h1 => h1.c (fun a j q => fo a j (by unfold scrC at q; omega)) (fun j g0 g1 => by rw [fo 10 j (by decide)]; exact h.1.2.2.2.2.1.2 j g0 g1)) (fun _ d0 d1 => ⟨d0, d1⟩)
  refine (m_flat (M := fflM M (nC M) p k w) (n := nC M) (al := t) (by rw [e430]; exact wa_0 h.1.hy.1) (by rw [e430]; exact hn) hn12 own tl).at (fun v9 S9 M9 q => ?_)
  rw [e430, fpe] at q
  unfold fflV
  rcases q with ⟨q0, ⟨q1, q2, q3⟩ | ⟨q1, q2, q3⟩⟩
  · refine ⟨q2.trans ?_, q0, q3⟩
    rw [if_neg (by unfold ffP; rw [c2]; omega), v_fl h.1 hn q1.2.1.1 q1.2.2.1 tl hT]
  · refine ⟨q2.trans ?_, q0, q3⟩
    rw [if_pos (by unfold ffP; rw [c2]; omega)]
