theorem tb_bsetf {p : Int → Prop} [DecidablePred p] {f : Int → Int} {e : Nat} (he : e < 32) : ∀ n : Nat, (∀ j : Nat, j < n → 0 ≤ f j ∧ f j < 32) → (tb (bset p f n) e = true ↔ ∃ j : Nat, j < n ∧ p j ∧ f j = (e : Int)) := by
  intro n
  induction n with
  | zero => intro _; exact ⟨fun h => absurd h (by rw [show bset p f 0 = 0 from rfl, tb_0]; decide), fun ⟨j, h, _⟩ => absurd h (Nat.not_lt_zero j)⟩
  | succ n ih =>
    intro h
    have i := ih (fun j hj => h j (by omega))
    by_cases w : p n
    · obtain ⟨k, hk⟩ := Int.eq_ofNat_of_zero_le (h n (by omega)).1
      have hk : f (n : Int) = (k : Int) := hk
      have k32 : k < 32 := by have := (h n (by omega)).2; omega
      rw [bset_t w, tb_or, Bool.or_eq_true, i, hk, tb_shl1 k32 he, decide_eq_true_eq]
      constructor
      · rintro (⟨j, j1, j2⟩ | q)
        · exact ⟨j, by omega, j2⟩
        · exact ⟨n, by omega, w, by rw [hk, q]⟩
      · rintro ⟨j, j1, j2, j3⟩
        by_cases g : j = n
        · subst g
          rw [hk] at j3
          exact Or.inr (by omega)
        · exact Or.inl ⟨j, by omega, j2, j3⟩
    · rw [bset_f w, tb_or, tb_0, Bool.or_false, i]
      constructor
      · rintro ⟨j, j1, j2⟩; exact ⟨j, by omega, j2⟩
      · rintro ⟨j, j1, j2, j3⟩
        by_cases g : j = n
        · subst g; exact absurd j2 w
        · exact ⟨j, by omega, j2, j3⟩
theorem fcS_y {M : Me} {p : Int} {j : Nat} : ∀ i : Nat, j < (fcS M p i).1 → ∃ c : Nat, c < i ∧ M 209 (c : Int) = p ∧ (fcS M p c).1 = j := by
  intro i
  induction i with
  | zero => intro h; exact absurd h (Nat.not_lt_zero j)
  | succ i ih =>
    intro h
    by_cases q : M 209 (i : Int) = p
    · rw [fcS_t q] at h
      have h : j < (fcS M p i).1 + 1 := h
      by_cases g : j = (fcS M p i).1
      · exact ⟨i, by omega, q, g.symm⟩
      · obtain ⟨c, c1, c2⟩ := ih (by omega)
        exact ⟨c, by omega, c2⟩
    · rw [fcS_f q] at h
      obtain ⟨c, c1, c2⟩ := ih h
      exact ⟨c, by omega, c2⟩
theorem fcS_at {M : Me} {p : Int} {c n : Nat} (h : M 209 (c : Int) = p) (hc : c < n) : fnX M p n ((fcS M p c).1 : Int) = c ∧ (fcS M p c).1 < fnm M p n := by
  have := fcS_x h (n - c - 1)
  rwa [show c + 1 + (n - c - 1) = n by omega] at this
/-- all that the search found, by the reference -/
theorem fd_all {C A : Me} (h : rlR C A) {n : Nat} (hn : A 430 14 = (n : Int)) {ns : Nat} (h6 : A 430 6 = (ns : Int)) {p : Int} {al : Nat} (hal : bset (fun c : Int => A 430 (15 + 7 * c + 2) = p) (fun c => c) n = (al : Int)) (al2 : al < 4096) : fnd (A 430) n ns al (al + 1) = fnF C p n ns ∧ (∀ e : Nat, e < n → C 209 (e : Int) = p → wth (A 430) n ns al (al + 1) e = fnW C p n ns ((fcS C p e).1 : Int)) ∧ ∀ e : Nat, e < n → ¬ C 209 (e : Int) = p → wth (A 430) n ns al (al + 1) e = 0 := by
  have n12 : n ≤ 12 := by have := (wa_14 h.hy.1).2; omega
  have n68 : ns ≤ 8 := by have := (wa_6 h.hy.1).2; omega
  have own : ∀ c : Nat, c < 32 → (tb (al : Int) c = true ↔ c < n ∧ A 430 (15 + 7 * (c : Int) + 2) = p) := fun c hc => by
    rw [← hal]; exact tb_bset hc n (by omega)
  have aln : al < 2 ^ n := Nat.lt_pow_two_of_testBit al (fun i hi => by
    by_cases g : i < 32
    · rw [← tb_nat al2 g]
      cases w : tb (al : Int) i
      · rfl
      · have := ((own i g).mp w).1; omega
    · exact Nat.testBit_lt_two_pow (Nat.lt_of_lt_of_le al2 (Nat.pow_le_pow_right (n := 2) (by decide) (show 12 ≤ i by omega))))
  have n4 : 2 ^ n ≤ 2 ^ 12 := Nat.pow_le_pow_right (by decide) n12
  have z : ∀ s : Nat, al + 1 ≤ s → s < 2 ^ n → sok (A 430) n ns al (s : Int) = 0 := fun s h1 h2 => sok_f (fun w => by
    have := sub_le ((sub_tb (s := s) (t := al) (by omega) al2).mpr (an_not.mp w.1))
    omega)
  obtain ⟨d, hd⟩ : ∃ d : Nat, 2 ^ n = al + 1 + d := ⟨2 ^ n - (al + 1), by omega⟩
  obtain ⟨-, -, ⟨s0, sL⟩, -⟩ := h.1.2.2.2.2.2.o
  have f := fd_eq h hn h6 hal n 0 (by omega) 0 (fL C) (by decide) (fun j _ w => absurd w (by rw [show ((0 : Nat) : Int) = 0 from rfl, tb_0]; decide)) (fun j hj => by
    have b := (sL j (by omega) (by omega)).2.2
    have e : smS (A 430) ((0 : Nat) : Int) j n = 0 := isum_z n (fun i hi w => by
      have := (tb_has (s := ((0 : Nat) : Int)) (j := i) (by omega)).mp w.1
      rw [show ((0 : Nat) : Int) = 0 from rfl, tb_0] at this
      exact absurd this (by decide))
    rw [e]
    show C 226 (j : Int) = _
    rw [b]; omega)
  rw [show (fcS C p 0).1 = 0 from rfl, Nat.sub_zero] at f
  have e0 : ∀ t : Nat, 2 ^ 0 * t + 0 = t := fun t => by rw [show (2 : Nat) ^ 0 = 1 from rfl]; omega
  refine ⟨?_, fun e h1 h2 => ?_, fun e h1 h2 => ?_⟩
  · rw [fnd_s, ← smN_to (f := fun s => sok (A 430) n ns al (s : Int)) (n := al + 1) d (fun s a b => z s a (by omega)), ← hd]
    refine Eq.trans ?_ f.1
    exact smN_c _ (fun t _ => by rw [e0 t])
  · rw [wth_s, ← smN_to (f := fun s => sok (A 430) n ns al (s : Int) * and32 (shr32 (s : Int) (e : Int)) 1) (n := al + 1) d (fun s a b => by
      show sok (A 430) n ns al (s : Int) * _ = 0
      rw [z s a (by omega), Int.zero_mul]), ← hd]
    refine Eq.trans ?_ (f.2 e (by omega) h1 h2)
    exact smN_c _ (fun t _ => by rw [e0 t])
  · rw [wth_s]
    refine smN_z _ (fun s hs => ?_)
    by_cases w : and32 (s : Int) (xor32 (al : Int) (-1)) = 0
    · have hb := an_not.mp w e (by omega)
      have hh := tb_has (s := (s : Int)) (j := e) (by omega)
      have bb := bit_01 (s := (s : Int)) (c := e) (by omega)
      have : ¬ and32 (shr32 (s : Int) (e : Int)) 1 = 1 := fun q => by
        have o := ((own e (by omega)).mp (hb (hh.mp q))).2
        rw [← (h.cr (c := (e : Int)) (by omega) (by omega)).1.1] at o
        exact h2 o
      rw [show and32 (shr32 (s : Int) (e : Int)) 1 = 0 by omega, Int.mul_zero]
    · rw [sok_f (fun q => w q.1), Int.zero_mul]
theorem fn_9 {M : Me} {p : Int} {n ns : Nat} {j : Int} (h : 0 ≤ j ∧ j < 12) : fnM M p n ns 9 j = fnX M p n j := (up_ne (by omega)).trans ((fdM_o (by omega)).trans ((cpy_out (by omega)).trans (fiM_9 h)))
theorem fn_w {M : Me} {p : Int} {n ns : Nat} {j : Int} (h : 0 ≤ j ∧ j < fnm M p n) (h12 : j < 12) : fnM M p n ns 10 j = fnW M p n ns j := by
  have e : fnM M p n ns 10 j = (if 0 ≤ j ∧ j < (fnm M p n : Int) then 0 else M 10 j) + wnF M ns (fnm M p n) (fnX M p n) (fnm M p n) (fL M) j := (up_ne (by omega)).trans (fdM_W ⟨h.1, h12⟩)
  rw [e, if_pos h, Int.zero_add]; rfl
theorem fn_o {M : Me} {p : Int} {n ns : Nat} {a j : Int} (h : a ≠ 8 ∧ a ≠ 9 ∧ a ≠ 10 ∧ a ≠ 11) : fnM M p n ns a j = M a j := (up_ne (by omega)).trans ((fdM_o (by omega)).trans (fn1_o (by omega)))
/-- the sets of creases that are in all, or in none -/
theorem v_se {C A : Me} (h : rlR C A) {n : Nat} (hn : A 430 14 = (n : Int)) {ns : Nat} (h6 : A 430 6 = (ns : Int)) {p : Int} {al : Nat} (hal : bset (fun c : Int => A 430 (15 + 7 * c + 2) = p) (fun c => c) n = (al : Int)) (al2 : al < 4096) {v : Int} : bset (fun j : Int => fnM C p n ns 10 j = v) (fun j => fnM C p n ns 9 j) (fnm C p n) = bset (fun c : Int => and32 (shr32 (al : Int) c) 1 = 1 ∧ wth (A 430) n ns al (al + 1) c = v) (fun c => c) n := by
  have n12 : n ≤ 12 := by have := (wa_14 h.hy.1).2; omega
  have mn : fnm C p n ≤ n := (fcS_b (M := C) (p := p) n).1
  obtain ⟨f1, f2, f3⟩ := fd_all h hn h6 hal al2
  refine tb_ext (bset_in _) (bset_in _) (fun e he => ?_)
  have h1 := tb_bsetf (p := fun j : Int => fnM C p n ns 10 j = v) (f := fun j => fnM C p n ns 9 j) he (fnm C p n) (fun j hj => by
    show 0 ≤ fnM C p n ns 9 (j : Int) ∧ fnM C p n ns 9 (j : Int) < 32
    rw [fn_9 (by omega)]
    have e3 : fnm C p n = (fcS C p n).1 := rfl
    have := (fcS_b (M := C) (p := p) n).2 (j : Int) (by omega) (by omega)
    have e2 : fnX C p n = (fcS C p n).2 := rfl
    rw [e2]; omega)
  have h2 := tb_bset (p := fun c : Int => and32 (shr32 (al : Int) c) 1 = 1 ∧ wth (A 430) n ns al (al + 1) c = v) he n (by omega)
  have own : e < n → (and32 (shr32 (al : Int) (e : Int)) 1 = 1 ↔ C 209 (e : Int) = p) := fun hc => by
    rw [tb_has he, ← hal, tb_bset he n (by omega), (h.cr (c := (e : Int)) (by omega) (by omega)).1.1]
    exact ⟨fun q => q.2, fun q => ⟨hc, q⟩⟩
  have k : (∃ j : Nat, j < fnm C p n ∧ fnM C p n ns 10 (j : Int) = v ∧ fnM C p n ns 9 (j : Int) = (e : Int)) ↔ e < n ∧ and32 (shr32 (al : Int) (e : Int)) 1 = 1 ∧ wth (A 430) n ns al (al + 1) (e : Int) = v := by
    constructor
    · rintro ⟨j, j1, j2, j3⟩
      obtain ⟨c, c1, c2, c3⟩ := fcS_y (M := C) (p := p) (j := j) n j1
      have x := (fcS_at c2 c1).1
      rw [c3] at x
      rw [fn_9 (by omega), x] at j3
      obtain rfl : c = e := by omega
      rw [fn_w (by omega) (by omega)] at j2
      refine ⟨c1, (own c1).mpr c2, ?_⟩
      rw [f2 c c1 c2, c3]; exact j2
    · rintro ⟨e1, e2, e3⟩
      have o := (own e1).mp e2
      have x := fcS_at o e1
      refine ⟨(fcS C p e).1, x.2, ?_, ?_⟩
      · rw [fn_w (by omega) (by omega), ← f2 e e1 o]; exact e3
      · rw [fn_9 (by omega)]; exact x.1
  cases q1 : tb (bset (fun j : Int => fnM C p n ns 10 j = v) (fun j => fnM C p n ns 9 j) (fnm C p n)) e <;> cases q2 : tb (bset (fun c : Int => and32 (shr32 (al : Int) c) 1 = 1 ∧ wth (A 430) n ns al (al + 1) c = v) (fun c => c) n) e
  · rfl
  · have := h1.mpr (k.mpr (h2.mp q2)); rw [q1] at this; exact absurd this (by decide)
  · have := h2.mpr (k.mp (h1.mp q1)); rw [q2] at this; exact absurd this (by decide)
  · rfl
/-- the next question -/
theorem ak_eq {M : Me} {p : Int} {X W wt : Int → Int} {F : Int} {n : Nat} (hF : 0 ≤ F ∧ F ≤ 4096) (hw : ∀ c : Nat, c < n → 0 ≤ wt c ∧ wt c ≤ F) (h1 : ∀ c : Nat, c < n → M 209 (c : Int) = p → X ((fcS M p c).1 : Int) = c ∧ W ((fcS M p c).1 : Int) = wt c) (h2 : ∀ c : Nat, c < n → ¬ M 209 (c : Int) = p → wt c = 0) : ∀ c : Nat, c ≤ n → (akS X W F (fcS M p c).1).1 = (nxS F wt c).1 ∧ ((akS X W F (fcS M p c).1).2 = (nxS F wt c).2 ∨ ((akS X W F (fcS M p c).1).2 = 1000000 ∧ (nxS F wt c).2 = 1000000000)) := by
  intro c
  induction c with
  | zero => intro _; exact ⟨rfl, Or.inr ⟨rfl, rfl⟩⟩
  | succ c ih =>
    intro hc
    obtain ⟨i1, i2⟩ := ih (by omega)
    have b := hw c (by omega)
    by_cases q : M 209 (c : Int) = p
    · obtain ⟨x1, x2⟩ := h1 c (by omega) q
      rw [fcS_t q]
      show (akS X W F ((fcS M p c).1 + 1)).1 = _ ∧ ((akS X W F ((fcS M p c).1 + 1)).2 = _ ∨ ((akS X W F ((fcS M p c).1 + 1)).2 = _ ∧ _))
      have ed : akD F (wt c) = nxd F (wt c) := by unfold akD nxd; split <;> split <;> omega
      have db : nxd F (wt c) ≤ 4096 := by unfold nxd; split <;> omega
      by_cases g : (0 < wt c ∧ wt c < F) ∧ akD F (wt c) < (akS X W F (fcS M p c).1).2
      · rw [akS_t (by rw [x2]; exact g), nxS_t ed.symm ⟨by omega, by omega, by rcases i2 with i2 | i2 <;> omega⟩, x1, x2]
        exact ⟨rfl, Or.inl rfl⟩
      · rw [akS_f (by rw [x2]; exact g), nxS_f ed.symm (fun w => g ⟨by omega, by rcases i2 with i2 | i2 <;> omega⟩)]
        exact ⟨i1, i2⟩
    · rw [fcS_f q, nxS_f rfl (fun w => w.1 (h2 c (by omega) q))]
      exact ⟨i1, i2⟩
theorem v_nx {C A : Me} (h : rlR C A) {n : Nat} (hn : A 430 14 = (n : Int)) {ns : Nat} (h6 : A 430 6 = (ns : Int)) {p : Int} {al : Nat} (hal : bset (fun c : Int => A 430 (15 + 7 * c + 2) = p) (fun c => c) n = (al : Int)) (al2 : al < 4096) : (akS (fun j => fnM C p n ns 9 j) (fun j => fnM C p n ns 10 j) (fnF C p n ns) (fnm C p n)).1 = (nxS (fnd (A 430) n ns al (al + 1)) (wth (A 430) n ns al (al + 1)) n).1 := by
  have n12 : n ≤ 12 := by have := (wa_14 h.hy.1).2; omega
  have mn : fnm C p n ≤ n := (fcS_b (M := C) (p := p) n).1
  obtain ⟨f1, f2, f3⟩ := fd_all h hn h6 hal al2
  rw [f1]
  refine (ak_eq (M := C) (p := p) (fn_F n12) (fun c hc => ?_) (fun c hc o => ?_) (fun c hc o => f3 c hc o) n (Nat.le_refl n)).1
  · rw [← f1]; exact wth_b (by omega) (al + 1)
  · have x := fcS_at o hc
    refine ⟨?_, ?_⟩
    · show fnM C p n ns 9 _ = _
      rw [fn_9 (by omega)]; exact x.1
    · show fnM C p n ns 10 _ = _
      rw [fn_w (by omega) (by omega), f2 c hc o]
/-- SETS -/
theorem op_sets {M : Me} (h : INV M) {p u : Int} : OpR kX10_sets kX11_sets 16 4 [(0, p), (0, u)] M := by
  obtain ⟨hn, hn12⟩ := h.1.hy.n
  have c3 : M 50 3 = (nC M : Int) := h.1.sc.2.1.2.2.2.1.trans hn
  have c2 : M 50 2 = M 430 0 := h.1.sc.2.1.2.2.1
  obtain ⟨-, -, ⟨a6, b6⟩, -, -, -, b7⟩ := h.1.1.2.2.2.2.2.o
  have w6 := wa_6 h.1.hy.1
  obtain ⟨ns, h6⟩ := Int.eq_ofNat_of_zero_le w6.1
  have h6 : M 430 6 = (ns : Int) := h6
  have bT := bset4 (p := fun c : Int => M 430 (15 + 7 * c + 2) = p) (nC M) hn12
  obtain ⟨al, hal⟩ := Int.eq_ofNat_of_zero_le bT.1
  have hal : bset (fun c : Int => M 430 (15 + 7 * c + 2) = p) (fun c => c) (nC M) = (al : Int) := hal
  have al2 : al < 4096 := by have := bT.2; omega
  have hw10 := h.1.2.2.2.2.1.2
  have fo : ∀ a j : Int, a ≠ 8 ∧ a ≠ 9 ∧ a ≠ 10 ∧ a ≠ 11 → fzM M (nC M) ns p u a j = M a j := fun a j q => by
    unfold fzM
    split
    · rfl
    · exact fn_o q
  have f10 : ∀ j : Int, 0 ≤ j → j < 12 → 0 ≤ fzM M (nC M) ns p u 10 j ∧ fzM M (nC M) ns p u 10 j ≤ 100000 := fun j g0 g1 => by
    unfold fzM
    split
    · exact hw10 j g0 g1
    · exact fn_10 hn12 hw10 j g0 g1
  have c9 : ∀ x y z : Int, _ := fun x y z => f_sets (x := x) (y := y) (z := z) (p := p) (u := u) h.1.ci c3 hn12 (a6.trans h6) (by omega) b7 hw10
  have eV : fzV M (nC M) ns p u = if ¬ ((0 ≤ p ∧ p < M 430 0) ∧ 0 ≤ u ∧ u ≤ 2) then -1 else if u = 0 then fnd (M 430) (nC M) ns al (al + 1) else if 0 < fnd (M 430) (nC M) ns al (al + 1) then stA al (fnd (M 430) (nC M) ns al (al + 1)) (wth (M 430) (nC M) ns al (al + 1)) u (nC M) else 0 := by
    obtain ⟨f1, f2, f3⟩ := fd_all h.1 hn h6 hal al2
    unfold fzV
    by_cases q : fzP M p u
    · rw [if_pos q, if_pos (by unfold fzP at q; rw [c2] at q; omega)]
    · have q2 : ¬ ¬ ((0 ≤ p ∧ p < M 430 0) ∧ 0 ≤ u ∧ u ≤ 2) := by unfold fzP at q; rw [c2] at q; omega
      rw [if_neg q, if_neg q2, ← f1]
      by_cases q0 : u = 0
      · rw [if_pos q0, if_pos q0]
      · rw [if_neg q0, if_neg q0]
        by_cases q1 : u = 1
        · rw [if_pos q1]
          by_cases g : 0 < fnd (M 430) (nC M) ns al (al + 1)
          · rw [if_pos g, if_pos g, v_se h.1 hn h6 hal al2]
            unfold stA; rw [if_pos q1]
          · rw [if_neg g, if_neg g]
        · rw [if_neg q1]
          by_cases g : 0 < fnd (M 430) (nC M) ns al (al + 1)
          · rw [if_pos g, if_pos g, v_se h.1 hn h6 hal al2]
            unfold stA; rw [if_neg q1]
          · rw [if_neg g, if_neg g]
  rw [eV] at c9
  generalize hf : fzM M (nC M) ns p u = f at fo f10 c9
  have e430 : f 430 = M 430 := funext fun j => fo 430 j (by decide)
  have mc : rlR M f → ∀ x y z : Int, _ := fun h1 x y z => m_sets (x := x) (y := y) (z := z) (M := f) (p := p) (u := u) (n := nC M) (n6 := ns) (al := al) (by rw [e430]; exact wa_0 h.1.hy.1) (by rw [e430]; exact hn) hn12 (by rw [e430]; exact h6) (by omega) (fun c g0 g1 => by rw [e430]; exact wc_4 h.1.hy.1 (by omega)) (by rw [e430]; exact hal) al2
  have h2 : rlR M f → rlR f f := fun h1 => h1.c (fun a j q => fo a j (by unfold scrC at q; omega)) f10
  have tp : ∀ (F : Int) (X : Int → Int), rlR M f → rlR f (lsm f F X) := fun F X h1 => (h2 h1).tape (fun _ _ _ _ _ => rfl) (fun _ => rfl) (fun a j q0 q1 => lsm_o (by omega)) (by
    have d := (h2 h1).2.2.2.1
    unfold rlD
    rw [lsm_o (by omega), lsm_o (by omega), lsm_o (by omega)]
    exact ⟨d.1, d.2.1, d.2.2.1, fun j g0 g1 => by rw [lsm_o (by omega)]; exact d.2.2.2 j g0 g1⟩)
  by_cases q : ¬ ((0 ≤ p ∧ p < M 430 0) ∧ 0 ≤ u ∧ u ≤ 2)
  · refine OpR.mk (f := f) (g := f) h (fun x y z => ⟨x, _, z, c9 x y z⟩) (fun a j w => fo a j (by omega)) (fun h1 x y z => (mc h1 x y z).at (fun v9 S9 M9 w => ?_)) (fun _ _ _ _ => rfl) h2 (fun _ d0 d1 => ⟨d0, d1⟩)
    rw [e430] at w
    rw [if_pos q]
    rcases w with ⟨q0, ⟨p1, p2, p3⟩ | ⟨p1, p2, p3⟩ | ⟨p1, p2, p3⟩ | ⟨p1, p2, p3⟩⟩
    · exact ⟨p2, q0, p3⟩
    · exact absurd p1.1 q
    · exact absurd p1.1 q
    · exact absurd p1.1 q
  · refine OpR.mk (f := f) (g := lsm f (fnd (M 430) (nC M) ns al (al + 1)) (wth (M 430) (nC M) ns al (al + 1))) h (fun x y z => ⟨x, _, z, c9 x y z⟩) (fun a j w => fo a j (by omega)) (fun h1 x y z => (mc h1 x y z).at (fun v9 S9 M9 w => ?_)) (fun _ a j w => lsm_o (by omega)) (tp _ _) (fun _ d0 d1 => ⟨d0.row (fun j => lsm_o (by omega)), d1.row (fun j => lsm_o (by omega))⟩)
    rw [e430] at w
    rw [if_neg q]
    rcases w with ⟨q0, ⟨p1, p2, p3⟩ | ⟨p1, p2, p3⟩ | ⟨p1, p2, p3⟩ | ⟨p1, p2, p3⟩⟩
    · exact absurd p1 q
    · exact ⟨p2.trans (by rw [if_pos p1.2]), q0, p3⟩
    · exact ⟨p2.trans (by rw [if_neg p1.2.1, if_pos p1.2.2]), q0, p3⟩
    · exact ⟨p2.trans (by rw [if_neg p1.2.1, if_neg p1.2.2]), q0, p3⟩
/-- NEXT -/
theorem op_next {M : Me} (h : INV M) {p : Int} : OpR kX10_next kX11_next 16 4 [(0, p)] M := by
  obtain ⟨hn, hn12⟩ := h.1.hy.n
  have c3 : M 50 3 = (nC M : Int) := h.1.sc.2.1.2.2.2.1.trans hn
  have c2 : M 50 2 = M 430 0 := h.1.sc.2.1.2.2.1
  obtain ⟨-, -, ⟨a6, b6⟩, -, -, -, b7⟩ := h.1.1.2.2.2.2.2.o
  have w6 := wa_6 h.1.hy.1
  obtain ⟨ns, h6⟩ := Int.eq_ofNat_of_zero_le w6.1
  have h6 : M 430 6 = (ns : Int) := h6
  have bT := bset4 (p := fun c : Int => M 430 (15 + 7 * c + 2) = p) (nC M) hn12
  obtain ⟨al, hal⟩ := Int.eq_ofNat_of_zero_le bT.1
  have hal : bset (fun c : Int => M 430 (15 + 7 * c + 2) = p) (fun c => c) (nC M) = (al : Int) := hal
  have al2 : al < 4096 := by have := bT.2; omega
  have hw10 := h.1.2.2.2.2.1.2
  have fo : ∀ a j : Int, a ≠ 8 ∧ a ≠ 9 ∧ a ≠ 10 ∧ a ≠ 11 → fnN M (nC M) ns p a j = M a j := fun a j q => by
    unfold fnN
    split
    · rfl
    · exact fn_o q
  have f10 : ∀ j : Int, 0 ≤ j → j < 12 → 0 ≤ fnN M (nC M) ns p 10 j ∧ fnN M (nC M) ns p 10 j ≤ 100000 := fun j g0 g1 => by
    unfold fnN
    split
    · exact hw10 j g0 g1
    · exact fn_10 hn12 hw10 j g0 g1
  have c9 : ∀ x y z : Int, _ := fun x y z => f_next (x := x) (y := y) (z := z) (p := p) h.1.ci c3 hn12 (a6.trans h6) (by omega) b7 hw10
  have eV : fnV M (nC M) ns p = if ¬ (0 ≤ p ∧ p < M 430 0) then -1 else (nxS (fnd (M 430) (nC M) ns al (al + 1)) (wth (M 430) (nC M) ns al (al + 1)) (nC M)).1 := by
    unfold fnV
    rw [c2, v_nx h.1 hn h6 hal al2]
  rw [eV] at c9
  generalize hf : fnN M (nC M) ns p = f at fo f10 c9
  have e430 : f 430 = M 430 := funext fun j => fo 430 j (by decide)
  have mc : rlR M f → ∀ x y z : Int, _ := fun h1 x y z => m_next (x := x) (y := y) (z := z) (M := f) (p := p) (n := nC M) (n6 := ns) (al := al) (by rw [e430]; exact wa_0 h.1.hy.1) (by rw [e430]; exact hn) hn12 (by rw [e430]; exact h6) (by omega) (fun c g0 g1 => by rw [e430]; exact wc_4 h.1.hy.1 (by omega)) (by rw [e430]; exact hal) al2
  have h2 : rlR M f → rlR f f := fun h1 => h1.c (fun a j q => fo a j (by unfold scrC at q; omega)) f10
  have tp : ∀ (F : Int) (X : Int → Int), rlR M f → rlR f (lsm f F X) := fun F X h1 => (h2 h1).tape (fun _ _ _ _ _ => rfl) (fun _ => rfl) (fun a j q0 q1 => lsm_o (by omega)) (by
    have d := (h2 h1).2.2.2.1
    unfold rlD
    rw [lsm_o (by omega), lsm_o (by omega), lsm_o (by omega)]
    exact ⟨d.1, d.2.1, d.2.2.1, fun j g0 g1 => by rw [lsm_o (by omega)]; exact d.2.2.2 j g0 g1⟩)
  by_cases q : ¬ (0 ≤ p ∧ p < M 430 0)
  · refine OpR.mk (f := f) (g := f) h (fun x y z => ⟨x, _, z, c9 x y z⟩) (fun a j w => fo a j (by omega)) (fun h1 x y z => (mc h1 x y z).at (fun v9 S9 M9 w => ?_)) (fun _ _ _ _ => rfl) h2 (fun _ d0 d1 => ⟨d0, d1⟩)
    rw [e430] at w
    rw [if_pos q]
    rcases w with ⟨q0, ⟨p1, p2, p3⟩ | ⟨p1, p2, p3⟩⟩
    · exact ⟨p2, q0, p3⟩
    · exact absurd p1 q
  · refine OpR.mk (f := f) (g := lsm f (fnd (M 430) (nC M) ns al (al + 1)) (wth (M 430) (nC M) ns al (al + 1))) h (fun x y z => ⟨x, _, z, c9 x y z⟩) (fun a j w => fo a j (by omega)) (fun h1 x y z => (mc h1 x y z).at (fun v9 S9 M9 w => ?_)) (fun _ a j w => lsm_o (by omega)) (tp _ _) (fun _ d0 d1 => ⟨d0.row (fun j => lsm_o (by omega)), d1.row (fun j => lsm_o (by omega))⟩)
    rw [e430] at w
    rw [if_neg q]
    rcases w with ⟨q0, ⟨p1, p2, p3⟩ | ⟨p1, p2, p3⟩⟩
    · exact absurd p1 q
    · exact ⟨p2, q0, p3⟩
