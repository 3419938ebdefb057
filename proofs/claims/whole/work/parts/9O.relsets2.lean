/-- whether a crease lies in a seam, by the reference's row -/
abbrev seM (A : Me) (c j : Int) : Prop := A 430 (138 + 3 * j) ≤ A 430 (15 + 7 * c + 3) ∧ A 430 (15 + 7 * c + 3) ≤ A 430 (138 + 3 * j + 1)
/-- one crease more in a set -/
theorem smS_1 {A : Me} {n c s : Nat} {j : Int} (hn : n ≤ 12) (hc : c < n) (hs : s < 2 ^ c) (hx : 2 ^ c * 1 + s < 4096) : smS (A 430) ((2 ^ c * 1 + s : Nat) : Int) j n = smS (A 430) (s : Int) j n + (if seM A c j then A 430 (15 + 7 * (c : Int) + 4) else 0) := by
  have hb : ∀ i : Nat, i < 32 → tb ((2 ^ c * 1 + s : Nat) : Int) i = if i < c then s.testBit i else (1 : Nat).testBit (i - c) := fun i hi => x_bit hs hx hi
  have hs2 : ∀ i : Nat, i < 32 → tb (s : Int) i = s.testBit i := fun i hi => tb_nat (by omega) hi
  have hz : s.testBit c = false := Nat.testBit_lt_two_pow hs
  unfold smS
  have k : ∀ m : Nat, m ≤ n → isum (fun e : Int => and32 (shr32 ((2 ^ c * 1 + s : Nat) : Int) e) 1 = 1 ∧ seM A e j) (fun e : Int => A 430 (15 + 7 * e + 4)) m = isum (fun e : Int => and32 (shr32 (s : Int) e) 1 = 1 ∧ seM A e j) (fun e : Int => A 430 (15 + 7 * e + 4)) m + (if c < m ∧ seM A c j then A 430 (15 + 7 * (c : Int) + 4) else 0) := by
    intro m
    induction m with
    | zero => intro _; rw [if_neg (by omega)]; rfl
    | succ m ih =>
      intro hm
      have i := ih (by omega)
      have h1 := tb_has (s := ((2 ^ c * 1 + s : Nat) : Int)) (j := m) (by omega)
      have h2 := tb_has (s := (s : Int)) (j := m) (by omega)
      rw [hb m (by omega)] at h1
      rw [hs2 m (by omega)] at h2
      by_cases e : m = c
      · subst e
        rw [if_neg (by omega), Nat.sub_self] at h1
        have n2 : ¬ (and32 (shr32 (s : Int) (m : Int)) 1 = 1 ∧ seM A (m : Int) j) := fun w => by have := h2.mp w.1; rw [hz] at this; exact absurd this (by decide)
        rw [if_neg (by omega), Int.add_zero] at i
        rw [isum_f (p := fun e : Int => and32 (shr32 (s : Int) e) 1 = 1 ∧ seM A e j) (f := fun e : Int => A 430 (15 + 7 * e + 4)) n2]
        by_cases w : seM A (m : Int) j
        · rw [isum_t (p := fun e : Int => and32 (shr32 ((2 ^ m * 1 + s : Nat) : Int) e) 1 = 1 ∧ seM A e j) (f := fun e : Int => A 430 (15 + 7 * e + 4)) ⟨h1.mpr (by decide), w⟩, if_pos ⟨by omega, w⟩, i]; omega
        · rw [isum_f (p := fun e : Int => and32 (shr32 ((2 ^ m * 1 + s : Nat) : Int) e) 1 = 1 ∧ seM A e j) (f := fun e : Int => A 430 (15 + 7 * e + 4)) (fun z => w z.2), if_neg (fun z => w z.2), i]; omega
      · have hh : and32 (shr32 ((2 ^ c * 1 + s : Nat) : Int) (m : Int)) 1 = 1 ↔ and32 (shr32 (s : Int) (m : Int)) 1 = 1 := by
          rw [h1, h2]
          by_cases g : m < c
          · rw [if_pos g]
          · rw [if_neg g]
            have q1 : (1 : Nat).testBit (m - c) = false := by
              have : m - c = (m - c - 1) + 1 := by omega
              rw [this, Nat.testBit_add_one]; exact Nat.zero_testBit _
            have q2 : s.testBit m = false := Nat.testBit_lt_two_pow (Nat.lt_of_lt_of_le hs (Nat.pow_le_pow_right (by decide) (by omega)))
            rw [q1, q2]
        have e2 : (if c < m + 1 ∧ seM A c j then A 430 (15 + 7 * (c : Int) + 4) else 0) = (if c < m ∧ seM A c j then A 430 (15 + 7 * (c : Int) + 4) else 0) := by
          by_cases z : c < m ∧ seM A c j
          · rw [if_pos z, if_pos ⟨by omega, z.2⟩]
          · rw [if_neg z, if_neg (fun w => z ⟨by omega, w.2⟩)]
        rw [e2]
        by_cases w : and32 (shr32 (s : Int) (m : Int)) 1 = 1 ∧ seM A (m : Int) j
        · rw [isum_t (p := fun e : Int => and32 (shr32 (s : Int) e) 1 = 1 ∧ seM A e j) (f := fun e : Int => A 430 (15 + 7 * e + 4)) w, isum_t (p := fun e : Int => and32 (shr32 ((2 ^ c * 1 + s : Nat) : Int) e) 1 = 1 ∧ seM A e j) (f := fun e : Int => A 430 (15 + 7 * e + 4)) ⟨hh.mpr w.1, w.2⟩, i]; omega
        · rw [isum_f (p := fun e : Int => and32 (shr32 (s : Int) e) 1 = 1 ∧ seM A e j) (f := fun e : Int => A 430 (15 + 7 * e + 4)) w, isum_f (p := fun e : Int => and32 (shr32 ((2 ^ c * 1 + s : Nat) : Int) e) 1 = 1 ∧ seM A e j) (f := fun e : Int => A 430 (15 + 7 * e + 4)) (fun z => w ⟨hh.mp z.1, z.2⟩), i]; omega
  have := k n (Nat.le_refl n)
  rw [this]
  congr 1
  by_cases w : seM A c j
  · rw [if_pos ⟨hc, w⟩, if_pos w]
  · rw [if_neg (fun z => w z.2), if_neg w]
/-- more creases weigh no less -/
theorem smS_m {A : Me} {n : Nat} {s x j : Int} (hn : n ≤ 12) (hw : ∀ c : Nat, c < n → 0 ≤ A 430 (15 + 7 * (c : Int) + 4)) (h : ∀ i : Nat, i < 32 → tb s i = true → tb x i = true) : smS (A 430) s j n ≤ smS (A 430) x j n := isum_m2 n (fun i hi q => ⟨(tb_has (by omega)).mpr (h i (by omega) ((tb_has (by omega)).mp q.1)), q.2⟩) (fun i hi => hw i hi)
theorem bic_c {p q : Prop} (h : p ↔ q) : bic p = bic q := congrArg bic (propext h)
theorem smA_s {a : Int → Int} {n n6 : Nat} {s : Int} {L : Int → Int} (hL : ∀ j : Nat, j < n6 → L j = a (138 + 3 * (j : Int) + 2) - smS a s j n) : smA a n s n6 ↔ nlP L n6 := by
  unfold smA nlP
  constructor
  · intro h j hj; rw [hL j hj, h j hj]; omega
  · intro h j hj; have := h j hj; rw [hL j hj] at this; omega
/-- the search counts what the reference counts -/
theorem fd_eq {C A : Me} (h : rlR C A) {n : Nat} (hn : A 430 14 = (n : Int)) {ns : Nat} (h6 : A 430 6 = (ns : Int)) {p : Int} {al : Nat} (hal : bset (fun c : Int => A 430 (15 + 7 * c + 2) = p) (fun c => c) n = (al : Int)) : ∀ d c : Nat, c + d = n → ∀ (s : Nat) (L : Int → Int), s < 2 ^ c → (∀ j : Nat, j < 32 → tb (s : Int) j = true → tb (al : Int) j = true) → (∀ j : Nat, j < ns → L j = A 430 (138 + 3 * (j : Int) + 2) - smS (A 430) (s : Int) j n) → smN (fun t => sok (A 430) n ns al ((2 ^ c * t + s : Nat) : Int)) (2 ^ d) = cnF C ns (fnm C p n) (fnX C p n) (fnm C p n - (fcS C p c).1) L ∧ ∀ e : Nat, c ≤ e → e < n → C 209 (e : Int) = p → smN (fun t => sok (A 430) n ns al ((2 ^ c * t + s : Nat) : Int) * and32 (shr32 ((2 ^ c * t + s : Nat) : Int) (e : Int)) 1) (2 ^ d) = wnF C ns (fnm C p n) (fnX C p n) (fnm C p n - (fcS C p c).1) L ((fcS C p e).1 : Int) := by
  have n12 : n ≤ 12 := by have := (wa_14 h.hy.1).2; omega
  have n68 : ns ≤ 8 := by have := (wa_6 h.hy.1).2; omega
  have dep : ∀ c : Nat, c < n → 0 ≤ A 430 (15 + 7 * (c : Int) + 4) := fun c hc => (wc_4 h.hy.1 (by omega)).1
  obtain ⟨-, -, ⟨s0, sL⟩, -⟩ := h.1.2.2.2.2.2.o
  have own : ∀ c : Nat, c < n → (tb (al : Int) c = true ↔ C 209 (c : Int) = p) := fun c hc => by
    rw [← hal, tb_bset (by omega) n (by omega), (h.cr (c := (c : Int)) (by omega) (by omega)).1.1]
    exact ⟨fun q => q.2, fun q => ⟨hc, q⟩⟩
  have inE : ∀ (c : Nat) (j : Nat), c < n → j < ns → (inS C (c : Int) (j : Int) ↔ seM A (c : Int) (j : Int)) := fun c j hc hj => by
    have b := sL j (by omega) (by omega)
    have q := (h.cr (c := (c : Int)) (by omega) (by omega)).2.1
    show (C 224 (j : Int) ≤ C 210 (c : Int) ∧ C 210 (c : Int) ≤ C 225 (j : Int)) ↔ _
    rw [b.1, b.2.1, q]
  intro d
  induction d with
  | zero =>
    intro c hc s L hs hb hL
    obtain rfl : c = n := by omega
    refine ⟨?_, fun e h1 h2 => absurd h2 (by omega)⟩
    rw [show (2 : Nat) ^ 0 = 1 from rfl, Nat.sub_self]
    show 0 + sok (A 430) c ns al ((2 ^ c * 0 + s : Nat) : Int) = bic (nlP L ns)
    rw [Nat.mul_zero, Nat.zero_add, Int.zero_add]
    exact bic_c ⟨fun w => (smA_s hL).mp w.2, fun w => ⟨an_not.mpr hb, (smA_s hL).mpr w⟩⟩
  | succ d ih =>
    intro c hc s L hs hb hL
    have hs1 : s < 2 ^ (c + 1) := by rw [Nat.pow_succ]; omega
    have hs2 : 2 ^ c * 1 + s < 2 ^ (c + 1) := by rw [Nat.pow_succ]; omega
    have hx4 : 2 ^ c * 1 + s < 4096 := by
      have h3 : 2 ^ (c + 1) ≤ 2 ^ 12 := Nat.pow_le_pow_right (by decide) (by omega)
      omega
    have sp : ∀ f : Nat → Int, smN (fun t => f (2 ^ c * t + s)) (2 ^ (d + 1)) = smN (fun t => f (2 ^ (c + 1) * t + s)) (2 ^ d) + smN (fun t => f (2 ^ (c + 1) * t + (2 ^ c * 1 + s))) (2 ^ d) := fun f => by
      rw [Nat.pow_succ 2 d, Nat.mul_comm (2 ^ d) 2, smN_2]
      congr 1
      · exact smN_c _ (fun t _ => congrArg f x_2.1)
      · exact smN_c _ (fun t _ => congrArg f x_2.2)
    have sp1 := sp (fun x => sok (A 430) n ns al ((x : Nat) : Int))
    have sp2 := fun e : Nat => sp (fun x => sok (A 430) n ns al ((x : Nat) : Int) * and32 (shr32 ((x : Nat) : Int) (e : Int)) 1)
    have i1 := ih (c + 1) (by omega) s L hs1 hb hL
    have xl : ∀ t : Nat, t < 2 ^ d → 2 ^ (c + 1) * t + (2 ^ c * 1 + s) < 4096 := fun t ht => x_lt (n := n) (c := c + 1) (d := d) (by omega) n12 ht hs2
    have xl0 : ∀ t : Nat, t < 2 ^ d → 2 ^ (c + 1) * t + s < 4096 := fun t ht => x_lt (n := n) (c := c + 1) (d := d) (by omega) n12 ht hs1
    have bc : ∀ t : Nat, t < 2 ^ d → tb ((2 ^ (c + 1) * t + (2 ^ c * 1 + s) : Nat) : Int) c = true := fun t ht => by
      rw [x_bit hs2 (xl t ht) (by omega), if_pos (by omega), Nat.testBit_two_pow_mul_add 1 hs c, if_neg (by omega), Nat.sub_self]; decide
    have bc0 : ∀ t : Nat, t < 2 ^ d → tb ((2 ^ (c + 1) * t + s : Nat) : Int) c = false := fun t ht => by
      rw [x_bit hs1 (xl0 t ht) (by omega), if_pos (by omega)]; exact Nat.testBit_lt_two_pow hs
    by_cases q : C 209 (c : Int) = p
    · -- the person's
      have fx := fcS_x q (n - c - 1)
      rw [show c + 1 + (n - c - 1) = n by omega] at fx
      have e1 : (fcS C p (c + 1)).1 = (fcS C p c).1 + 1 := by rw [fcS_t q]
      have fx2 : (fcS C p c).1 < fnm C p n := fx.2
      obtain ⟨k, hk⟩ : ∃ k : Nat, fnm C p n - (fcS C p c).1 = k + 1 := ⟨fnm C p n - (fcS C p c).1 - 1, by omega⟩
      have hk1 : fnm C p n - (fcS C p (c + 1)).1 = k := by omega
      have hkx : (fnm C p n : Int) - (k : Int) - 1 = ((fcS C p c).1 : Int) := by omega
      have hX : fnX C p n ((fnm C p n : Int) - (k : Int) - 1) = (c : Int) := by rw [hkx]; exact fx.1
      rw [hk1] at i1
      rw [hk]
      have hb2 : ∀ j : Nat, j < 32 → tb ((2 ^ c * 1 + s : Nat) : Int) j = true → tb (al : Int) j = true := fun j hj w => by
        rw [x_bit hs hx4 hj] at w
        by_cases g : j < c
        · rw [if_pos g] at w
          exact hb j hj (by rw [tb_nat (by omega) hj]; exact w)
        · rw [if_neg g] at w
          by_cases g2 : j = c
          · subst g2; exact (own j (by omega)).mpr q
          · have : j - c = (j - c - 1) + 1 := by omega
            rw [this, Nat.testBit_add_one, show (1 : Nat) / 2 = 0 from rfl, Nat.zero_testBit] at w
            exact absurd w (by decide)
      have cdep : C 211 (c : Int) = A 430 (15 + 7 * (c : Int) + 4) := (h.cr (c := (c : Int)) (by omega) (by omega)).2.2.1
      have hL2 : ∀ j : Nat, j < ns → sb1 C ns (c : Int) L (j : Int) = A 430 (138 + 3 * (j : Int) + 2) - smS (A 430) ((2 ^ c * 1 + s : Nat) : Int) j n := fun j hj => by
        rw [smS_1 n12 (by omega) hs hx4]
        have l := hL j hj
        have ie := inE c j (by omega) hj
        show sbL C (c : Int) 1 L (ns : Int) (j : Int) = _
        unfold sbL
        by_cases g : inS C (c : Int) (j : Int)
        · rw [if_pos ⟨by omega, g⟩, if_pos (ie.mp g), l, cdep]; omega
        · rw [if_neg (fun z => g z.2), if_neg (fun z => g (ie.mpr z)), l]; omega
      have rc : ∀ e : Nat, c < e → e < n → (fcS C p c).1 < (fcS C p e).1 := fun e h1 h2 => by
        have := (fcS_x q (e - c - 1)).2
        rwa [show c + 1 + (e - c - 1) = e by omega] at this
      -- the first half has no c
      have z1 : ∀ e : Nat, e = c → smN (fun t => sok (A 430) n ns al ((2 ^ (c + 1) * t + s : Nat) : Int) * and32 (shr32 ((2 ^ (c + 1) * t + s : Nat) : Int) (e : Int)) 1) (2 ^ d) = 0 := fun e he => smN_z _ (fun t ht => by
        subst he
        have hh := tb_has (s := ((2 ^ (e + 1) * t + s : Nat) : Int)) (j := e) (by omega)
        have bb := bit_01 (s := ((2 ^ (e + 1) * t + s : Nat) : Int)) (c := e) (by omega)
        have b0 := bc0 t ht
        have : ¬ and32 (shr32 ((2 ^ (e + 1) * t + s : Nat) : Int) (e : Int)) 1 = 1 := fun w => by rw [hh.mp w] at b0; exact absurd b0 (by decide)
        rw [show and32 (shr32 ((2 ^ (e + 1) * t + s : Nat) : Int) (e : Int)) 1 = 0 by omega, Int.mul_zero])
      have z2 : ∀ e : Nat, e = c → smN (fun t => sok (A 430) n ns al ((2 ^ (c + 1) * t + (2 ^ c * 1 + s) : Nat) : Int) * and32 (shr32 ((2 ^ (c + 1) * t + (2 ^ c * 1 + s) : Nat) : Int) (e : Int)) 1) (2 ^ d) = smN (fun t => sok (A 430) n ns al ((2 ^ (c + 1) * t + (2 ^ c * 1 + s) : Nat) : Int)) (2 ^ d) := fun e he => smN_c _ (fun t ht => by
        subst he
        have hh := tb_has (s := ((2 ^ (e + 1) * t + (2 ^ e * 1 + s) : Nat) : Int)) (j := e) (by omega)
        rw [hh.mpr (bc t ht), Int.mul_one])
      by_cases f : fiL C (fnX C p n ((fnm C p n : Int) - (k : Int) - 1)) 1 L ns = 0
      · -- it has too much
        have zz : ∀ t : Nat, t < 2 ^ d → sok (A 430) n ns al ((2 ^ (c + 1) * t + (2 ^ c * 1 + s) : Nat) : Int) = 0 := fun t ht => by
          refine sok_f (fun w => ?_)
          have f2 := f
          rw [hX, fiL_0] at f2
          obtain ⟨j, hj, g1, g2⟩ := f2
          have l2 := hL2 j hj
          have e2 : sb1 C ns (c : Int) L (j : Int) = L (j : Int) - 1 * C 211 (c : Int) := by
            show sbL C (c : Int) 1 L (ns : Int) (j : Int) = _
            unfold sbL
            rw [if_pos ⟨by omega, g1⟩]
          have e3 := w.2 j hj
          have m := smS_m (A := A) (s := ((2 ^ c * 1 + s : Nat) : Int)) (x := ((2 ^ (c + 1) * t + (2 ^ c * 1 + s) : Nat) : Int)) (j := (j : Int)) n12 dep (fun i hi b => by
            rw [tb_nat hx4 hi] at b
            rw [x_bit hs2 (xl t ht) hi]
            by_cases g : i < c + 1
            · rw [if_pos g]; exact b
            · rw [Nat.testBit_lt_two_pow (Nat.lt_of_lt_of_le hs2 (Nat.pow_le_pow_right (by decide) (by omega)))] at b
              exact absurd b (by decide))
          omega
        refine ⟨?_, fun e h1 h2 h3 => ?_⟩
        · rw [sp1, i1.1, cnF_z f, smN_z _ zz]
        · rw [sp2 e, wnF_z f]
          have zb : smN (fun t => sok (A 430) n ns al ((2 ^ (c + 1) * t + (2 ^ c * 1 + s) : Nat) : Int) * and32 (shr32 ((2 ^ (c + 1) * t + (2 ^ c * 1 + s) : Nat) : Int) (e : Int)) 1) (2 ^ d) = 0 := smN_z _ (fun t ht => by rw [zz t ht, Int.zero_mul])
          rw [zb]
          have nn : (if ((fcS C p e).1 : Int) = (fnm C p n : Int) - (k : Int) - 1 then (0 : Int) else 0) = 0 := by split <;> rfl
          rw [nn]
          by_cases g : e = c
          · rw [z1 e g]
            have := (wnF_b (M := C) (ns := ns) (m := fnm C p n) (X := fnX C p n) ((fcS C p e).1 : Int) k L).2.2 (by rw [g]; omega)
            rw [this]; rfl
          · rw [i1.2 e (by omega) h2 h3]; omega
      · have i2 := ih (c + 1) (by omega) (2 ^ c * 1 + s) (sb1 C ns (c : Int) L) hs2 hb2 hL2
        rw [hk1] at i2
        refine ⟨?_, fun e h1 h2 h3 => ?_⟩
        · rw [sp1, i1.1, cnF_n f, hX, i2.1]
        · rw [sp2 e, wnF_n f, hX]
          by_cases g : e = c
          · rw [z1 e g, z2 e g, i2.1]
            have b1 := (wnF_b (M := C) (ns := ns) (m := fnm C p n) (X := fnX C p n) ((fcS C p e).1 : Int) k L).2.2 (by rw [g]; omega)
            have b2 := (wnF_b (M := C) (ns := ns) (m := fnm C p n) (X := fnX C p n) ((fcS C p e).1 : Int) k (sb1 C ns (c : Int) L)).2.2 (by rw [g]; omega)
            rw [b1, b2, if_pos (by rw [g]; omega)]; omega
          · rw [i1.2 e (by omega) h2 h3, i2.2 e (by omega) h2 h3, if_neg (by have := rc e (by omega) h2; omega), Int.add_zero]
    · -- another's
      have e1 : (fcS C p (c + 1)).1 = (fcS C p c).1 := by rw [fcS_f q]
      rw [e1] at i1
      have zz : ∀ t : Nat, t < 2 ^ d → sok (A 430) n ns al ((2 ^ (c + 1) * t + (2 ^ c * 1 + s) : Nat) : Int) = 0 := fun t ht => sok_f (fun w => q ((own c (by omega)).mp (an_not.mp w.1 c (by omega) (bc t ht))))
      refine ⟨?_, fun e h1 h2 h3 => ?_⟩
      · rw [sp1, i1.1, smN_z _ zz, Int.add_zero]
      · have g : e ≠ c := fun z => q (by rw [← z]; exact h3)
        rw [sp2 e, i1.2 e (by omega) h2 h3, smN_z _ (fun t ht => by rw [zz t ht, Int.zero_mul]), Int.add_zero]
