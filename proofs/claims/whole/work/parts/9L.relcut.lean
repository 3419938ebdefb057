/-- a run over all numbers up to t that skips what is no subset of t is a run over the subsets -/
theorem sub_run {t : Nat} (ht : t < 4096) {R : Nat → Nat → Prop} (h0 : R 0 0) (hk : ∀ s i : Nat, s ≤ t → s &&& t ≠ s → R s i → R (s + 1) i) (hs : ∀ s i : Nat, s ≤ t → s &&& t = s → s = sbN t i → R s i → R (s + 1) (i + 1)) : R (t + 1) (2 ^ pcn t) := by
  obtain ⟨e1, e2⟩ := sbN_end 12 t (by omega) ht
  have pp : 0 < 2 ^ pcn t := Nat.two_pow_pos _
  have sk : ∀ (s d i : Nat), s + d ≤ t → (∀ x : Nat, s ≤ x → x < s + d → x &&& t ≠ x) → R s i → R (s + d) i := by
    intro s d
    induction d with
    | zero => intro i _ _ h; exact h
    | succ d ih => intro i h1 h2 h3; exact hk (s + d) i (by omega) (h2 _ (by omega) (by omega)) (ih i (by omega) (fun x a b => h2 x a (by omega)) h3)
  have a : ∀ i : Nat, i < 2 ^ pcn t → R (sbN t i) i := by
    intro i
    induction i with
    | zero => intro _; exact h0
    | succ i ih =>
      intro hi
      have hl := e2 i (by omega)
      have r := hs (sbN t i) i (by omega) (sbN_s ht i) rfl (ih (by omega))
      have n := nxN_p 32 t (sbN t i) (by omega) (sbN_s ht i) hl
      have e3 : sbN t (i + 1) = nxN 32 t (sbN t i) := rfl
      rw [← e3] at n
      obtain ⟨⟨n1, n2⟩, n3⟩ := n
      have l3 := sbN_le ht (i + 1)
      have := sk (sbN t i + 1) (sbN t (i + 1) - (sbN t i + 1)) (i + 1) (by omega) (fun x q0 q1 q2 => by have := n3 x q2 (by omega); omega) r
      rwa [show sbN t i + 1 + (sbN t (i + 1) - (sbN t i + 1)) = sbN t (i + 1) by omega] at this
  have r := a (2 ^ pcn t - 1) (by omega)
  rw [e1] at r
  have r2 := hs t (2 ^ pcn t - 1) (Nat.le_refl t) (Nat.and_self t) e1.symm r
  rwa [show 2 ^ pcn t - 1 + 1 = 2 ^ pcn t by omega] at r2
theorem an_not {s t : Int} : and32 s (xor32 t (-1)) = 0 ↔ ∀ j : Nat, j < 32 → tb s j = true → tb t j = true := by
  constructor
  · intro h j hj hs
    have e : tb (and32 s (xor32 t (-1))) j = false := by rw [h]; exact tb_0 j
    rw [tb_and, tb_not t hj, hs] at e
    cases hh : tb t j
    · rw [hh] at e; exact absurd e (by decide)
    · rfl
  · intro h
    refine tb_ext (and32_in _ _) (by decide) (fun j hj => ?_)
    rw [tb_and, tb_not t hj, tb_0]
    cases hs : tb s j
    · rfl
    · rw [h j hj hs]; rfl
theorem an_sub {s g : Int} (hg : -2147483648 ≤ g ∧ g < 2147483648) : and32 s g = g ↔ ∀ j : Nat, j < 32 → tb g j = true → tb s j = true := by
  constructor
  · intro h j hj hs
    have e : tb (and32 s g) j = tb g j := by rw [h]
    rw [tb_and, hs] at e
    cases hh : tb s j
    · rw [hh] at e; exact absurd e (by decide)
    · rfl
  · intro h
    refine tb_ext (and32_in _ _) hg (fun j hj => ?_)
    rw [tb_and]
    cases hs : tb g j
    · exact Bool.and_false _
    · rw [h j hj hs]; rfl
theorem an_dis {s g : Int} : and32 s g = 0 ↔ ∀ j : Nat, j < 32 → tb s j = true → tb g j = false := by
  constructor
  · intro h j hj hs
    have e : tb (and32 s g) j = false := by rw [h]; exact tb_0 j
    rw [tb_and, hs] at e
    cases hh : tb g j
    · rfl
    · rw [hh] at e; exact absurd e (by decide)
  · intro h
    refine tb_ext (and32_in _ _) (by decide) (fun j hj => ?_)
    rw [tb_and, tb_0]
    cases hs : tb s j
    · rfl
    · rw [h j hj hs]; rfl
/-- a subset, by numbers and by bits -/
theorem sub_tb {s t : Nat} (hs : s < 4096) (ht : t < 4096) : s &&& t = s ↔ ∀ j : Nat, j < 32 → tb (s : Int) j = true → tb (t : Int) j = true := by
  rw [← an_not]
  constructor
  · intro h
    have e : and32 (s : Int) (t : Int) = (s : Int) := by rw [and32_n (by omega) (by omega), h]
    rw [an_not]
    intro j hj h1
    have e2 : tb (and32 (s : Int) (t : Int)) j = true := by rw [e]; exact h1
    rw [tb_and, h1] at e2
    exact e2
  · intro h
    rw [an_not] at h
    have e : and32 (s : Int) (t : Int) = (s : Int) := by
      refine tb_ext (and32_in _ _) (by omega) (fun j hj => ?_)
      rw [tb_and]
      cases q : tb (s : Int) j
      · rfl
      · rw [h j hj q]; rfl
    rw [and32_n (by omega) (by omega)] at e
    omega
/-- the wants -/
theorem rl_wt {C A : Me} (h : rlR C A) {g : Int} : ∀ k : Nat, (k : Int) ≤ A 430 4 → wtC C g k = wtA A g k := by
  intro k
  induction k with
  | zero => intro _; rfl
  | succ k ih =>
    intro hk
    have i := ih (by omega)
    obtain ⟨⟨a0, b0⟩, -⟩ := h.1.2.2.2.2.2.o
    have b := b0 k (by omega) (by omega)
    by_cases q : C 217 (k : Int) = g
    · rw [wtC_t q, wtA_t (by rw [← b.2]; exact q), i, b.1.1]
      refine tb_ext (or32_in _ _) (or32_in _ _) (fun j hj => ?_)
      rw [tb_or, tb_or, tb_and, tb_not _ hj]
      cases tb (wtA A g k) j <;> cases tb (shl32 1 (A 430 (114 + 2 * (k : Int)))) j <;> rfl
    · rw [wtC_f q, wtA_f (by rw [← b.2]; exact q), i, b.1.1]
      refine tb_ext (and32_in _ _) (or32_in _ _) (fun j hj => ?_)
      rw [tb_or, tb_0, Bool.or_false]
/-- a set that may be pressed, on both sides -/
theorem cu_eq {C A : Me} (h : rlR C A) {n nw : Nat} (hn : A 430 14 = (n : Int)) (hnw : A 430 4 = (nw : Int)) {s t : Nat} (ht : t < 4096) (hal : thA A n = (t : Int)) (hs : s ≤ t) (hst : s &&& t = s) {f : Int} : ctp A n nw s f ↔ (cuP C n nw (s : Int) ∧ (f = -1 ∨ wsA A n s < wsA A n f ∨ wsA A n s = wsA A n f ∧ pcn (s : Int).toNat < pcn f.toNat)) := by
  have eT : thC C n = (t : Int) := (rl_th h hn).trans hal
  have e1 := rl_wt h (g := 1) nw (by omega)
  have e0 := rl_wt h (g := 0) nw (by omega)
  have sb := (sub_tb (by omega) ht).mp hst
  have eC : clo (fun c => C 214 c) (thC C n) s n ↔ clo (hangT (tiA A) n) (thA A n) s n := by
    rw [eT, hal]
    unfold clo
    constructor
    · intro q c hc
      have w : and32 (shr32 (s : Int) (c : Int)) 1 = 1 → and32 (and32 (C 214 (c : Int)) t) (xor32 (s : Int) (-1)) = 0 := q c hc
      rwa [v_ha h hn (c := (c : Int)) (by omega)] at w
    · intro q c hc
      show and32 (shr32 (s : Int) (c : Int)) 1 = 1 → and32 (and32 (C 214 (c : Int)) t) (xor32 (s : Int) (-1)) = 0
      rw [v_ha h hn (c := (c : Int)) (by omega)]
      exact q c hc
  have c1 : and32 (s : Int) (xor32 (thA A n) (-1)) = 0 := by rw [hal]; exact an_not.mpr sb
  have c2 : and32 (s : Int) (and32 (wtC C 1 nw) (thC C n)) = and32 (wtC C 1 nw) (thC C n) ↔ and32 (and32 (wtA A 1 nw) (thA A n)) (xor32 s (-1)) = 0 := by
    rw [e1, eT, hal, an_sub (and32_in _ _), an_not]
  have c3 : and32 (s : Int) (and32 (wtC C 0 nw) (thC C n)) = 0 ↔ and32 (s : Int) (wtA A 0 nw) = 0 := by
    rw [e0, eT, an_dis, an_dis]
    constructor
    · intro q j hj hs; have := q j hj hs; rwa [tb_and, sb j hj hs, Bool.and_true] at this
    · intro q j hj hs; rw [tb_and, q j hj hs]; rfl
  unfold ctp cuP
  rw [eC, c2, c3]
  constructor
  · rintro ⟨-, q1, q2, q3, q4⟩
    exact ⟨⟨q2, q1, q4⟩, q3⟩
  · rintro ⟨⟨q2, q1, q4⟩, q3⟩
    exact ⟨c1, q1, q2, q3, q4⟩
/-- CUT: the set -/
theorem v_cu {C A : Me} (h : rlR C A) {n nw : Nat} (hn : A 430 14 = (n : Int)) (hnw : A 430 4 = (nw : Int)) {t : Nat} (ht : t < 4096) (hal : thA A n = (t : Int)) : fcuS C n nw = ctf A n nw (t + 1) := by
  have eT : thC C n = (t : Int) := (rl_th h hn).trans hal
  have n12 : n ≤ 12 := by have := (wa_14 h.hy.1).2; omega
  have hw : ∀ c : Int, 0 ≤ c → c < n → -9 ≤ C 212 c ∧ C 212 c ≤ 9 := fun c g0 g1 => by
    rw [(h.cr g0 (by omega)).2.2.2.1]; exact wc_5 h.hy.1 (by omega)
  have run := sub_run ht (R := fun s i => ctf A n nw s = (cuS C n nw i).1 ∧ ((cuS C n nw i).1 = -1 ∧ (cuS C n nw i).2 = 1000000 ∨ (0 ≤ (cuS C n nw i).1 ∧ (cuS C n nw i).1 < 4096) ∧ (cuS C n nw i).2 = cuW C n (cuS C n nw i).1)) ⟨rfl, Or.inl ⟨rfl, rfl⟩⟩
    (fun s i hs q r => by
      refine ⟨(ctf_f (fun w => q ?_)).trans r.1, r.2⟩
      have := w.1
      rw [hal] at this
      exact (sub_tb (by omega) ht).mpr (an_not.mp this))
    (fun s i hs q e r => by
      have eS : sbC (thC C n) i = (s : Int) := by rw [eT, sbC_N ht, e]
      have k := cu_eq h hn hnw ht hal hs q (f := (cuS C n nw i).1)
      have wS : wsA A n s = wsC C n s := (rl_ws h hn).symm
      have wF : wsA A n (cuS C n nw i).1 = wsC C n (cuS C n nw i).1 := (rl_ws h hn).symm
      rw [wS, wF] at k
      have b1 := wsC_b (M := C) (s := (s : Int)) (n := n) hw n12
      have b2 := wsC_b (M := C) (s := (cuS C n nw i).1) (n := n) hw n12
      have p1 := pcn_le (s : Int).toNat (by omega)
      have eW : cuW C n (s : Int) = wsC C n s * 13 + (pcn (s : Int).toNat : Int) := rfl
      obtain ⟨r1, r2⟩ := r
      have lt : ((cuS C n nw i).1 = -1 ∨ wsC C n s < wsC C n (cuS C n nw i).1 ∨ wsC C n s = wsC C n (cuS C n nw i).1 ∧ pcn (s : Int).toNat < pcn (cuS C n nw i).1.toNat) ↔ cuW C n (s : Int) < (cuS C n nw i).2 := by
        rcases r2 with ⟨q1, q2⟩ | ⟨q1, q2⟩
        · rw [q2]
          exact ⟨fun _ => by omega, fun _ => Or.inl q1⟩
        · have p2 := pcn_le (cuS C n nw i).1.toNat (by omega)
          have eW2 : cuW C n (cuS C n nw i).1 = wsC C n (cuS C n nw i).1 * 13 + (pcn (cuS C n nw i).1.toNat : Int) := rfl
          rw [q2, eW, eW2]
          constructor
          · intro w; omega
          · intro w; omega
      rw [lt] at k
      by_cases q1 : cuP C n nw (s : Int)
      · by_cases q2 : cuW C n (s : Int) < (cuS C n nw i).2
        · have e2 := cuS_1 (by rw [eS]; exact q1) (by rw [eS]; exact q2)
          rw [eS] at e2
          rw [e2]
          refine ⟨ctf_t (by rw [r1]; exact k.mpr ⟨q1, q2⟩), Or.inr ⟨by omega, ?_⟩⟩
          show min (cuS C n nw i).2 (cuW C n (s : Int)) = cuW C n (s : Int)
          omega
        · have e2 := cuS_2 (by rw [eS]; exact q1) (by rw [eS]; exact q2)
          rw [eS] at e2
          rw [e2]
          refine ⟨(ctf_f (by rw [r1]; exact fun w => q2 (k.mp w).2)).trans r1, ?_⟩
          show (cuS C n nw i).1 = -1 ∧ min (cuS C n nw i).2 (cuW C n (s : Int)) = 1000000 ∨ (0 ≤ (cuS C n nw i).1 ∧ (cuS C n nw i).1 < 4096) ∧ min (cuS C n nw i).2 (cuW C n (s : Int)) = cuW C n (cuS C n nw i).1
          rw [show min (cuS C n nw i).2 (cuW C n (s : Int)) = (cuS C n nw i).2 by omega]
          exact r2
      · have e2 := cuS_f (by rw [eS]; exact q1)
        rw [e2]
        exact ⟨(ctf_f (by rw [r1]; exact fun w => q1 (k.mp w).1)).trans r1, r2⟩)
  unfold fcuS
  rw [eT, show ((t : Nat) : Int).toNat = t from rfl]
  exact run.1.symm
/-- CUT -/
theorem op_cut {M : Me} (h : INV M) {u : Int} : OpR kX10_cut kX11_cut 4 4 [(0, u)] M := by
  obtain ⟨hn, hn12⟩ := h.1.hy.n
  have c3 : M 50 3 = (nC M : Int) := h.1.sc.2.1.2.2.2.1.trans hn
  obtain ⟨⟨a0, b0⟩, -⟩ := h.1.1.2.2.2.2.2.o
  have w4 := wa_4 h.1.hy.1
  obtain ⟨nw, hw⟩ := Int.eq_ofNat_of_zero_le w4.1
  have hw : M 430 4 = (nw : Int) := hw
  have bT := thC_b (M := M) hn12
  obtain ⟨t, ht⟩ := Int.eq_ofNat_of_zero_le bT.1
  have hT : thA M (nC M) = (t : Int) := (rl_th h.1 hn).symm.trans ht
  have tl : t < 4096 := by have := bT.2; have : thC M (nC M) = (t : Int) := ht; omega
  have e := v_cu h.1 hn hw tl hT
  have lt := ctf_lt (M := M) (n := nC M) (nw := nw) (t + 1)
  refine OpR.rd (v := some (0, fcuV M (nC M) nw u)) h (fun x y z => f_cut h.1.ci c3 hn12 (a0.trans hw) (by omega)) (fun x y z => (m_cut hn hn12 hw (by omega) (fun c g0 g1 => wc_5 h.1.hy.1 (by omega)) hT tl).at (fun v9 S9 M9 q => ?_))
  unfold fcuV
  rw [e]
  rcases q with ⟨q0, ⟨q1, q2, q3⟩ | ⟨q1, q2, q3⟩ | ⟨q1, q2, q3⟩⟩
  · exact ⟨q2.trans (by rw [if_pos (by omega)]), q0, q3⟩
  · exact ⟨q2.trans (by rw [if_neg (by omega), if_neg q1.2, rl_ws h.1 hn]; rfl), q0, q3⟩
  · exact ⟨q2.trans (by rw [if_neg (by omega), if_pos q1.2]), q0, q3⟩
