theorem pwI_h : ∀ i : Nat, i ≤ 9 → pwI 100 i ≤ 1000000000000000000 := by decide
theorem pwI_b {b : Int} (h0 : 0 ≤ b) (h1 : b ≤ 100) {i : Nat} (hi : i ≤ 9) : 0 ≤ pwI b i ∧ pwI b i ≤ 1000000000000000000 := ⟨(pwI_le h0 h1 i).1, Int.le_trans (pwI_le h0 h1 i).2 (pwI_h i hi)⟩
def wyI (n : Int) : Nat → Int
  | 0 => 1
  | i + 1 => (wyI n i * (n - i)).tdiv ((i : Int) + 1)
theorem wyI_b : ∀ n : Nat, n ≤ 9 → ∀ i : Nat, i ≤ 9 → -1000000 ≤ wyI n i ∧ wyI n i ≤ 1000000 ∧ -1000000 ≤ wyI n i * (n - i) ∧ wyI n i * (n - i) ≤ 1000000 := by decide +kernel
theorem l_power {S : Sh} {M : Me} {b : Int} (h0 : 0 ≤ b) (h1 : b ≤ 100) {n : Nat} (hn : n ≤ 9) : ∀ (m i : Nat), m + i = n → V kX11_power 0 0 0 none (Ex (some (2, pwI b n)) S M) 5 [(0, b), (0, (n : Int)), (2, pwI b i), (9, 0), (0, (i : Int))] [] S M 0 0 := by
  intro m
  induction m with
  | zero =>
    intro i hi
    obtain rfl : i = n := by omega
    refine r_iload dX11_power_5 rfl ?_
    refine r_iload_n dX11_power_7 rfl ?_
    refine r_icmp_ge (tgt := 22) dX11_power_8 (by decide) (fun h8 => ?_) (fun h8 => by exfalso; omega)
    refine r_lload_n dX11_power_22 rfl ?_
    refine r_lret dX11_power_23 rfl ?_
    exact ⟨rfl, rfl, rfl⟩
  | succ m ih =>
    intro i hi
    have hb := pwI_b h0 h1 (i := i + 1) (by omega)
    have e : pwI b (i + 1) = pwI b i * b := rfl
    refine r_iload dX11_power_5 rfl ?_
    refine r_iload_n dX11_power_7 rfl ?_
    refine r_icmp_ge (tgt := 22) dX11_power_8 (by decide) (fun h8 => by exfalso; omega) (fun h8 => ?_)
    refine r_lload_n dX11_power_11 rfl ?_
    refine r_iload_n dX11_power_12 rfl ?_
    refine r_i2l dX11_power_13 ?_
    refine r_lmul dX11_power_14 (w64_id (by omega)) ?_
    refine r_lstore_n dX11_power_15 rfl (by decide) sl2 ?_
    refine r_iinc dX11_power_16 rfl rfl (by decide) (w32_id (by omega)) st4 ?_
    refine r_goto (tgt := 5) dX11_power_19 (by decide) ?_
    exact ih (i + 1) (by omega)
theorem c_power {S : Sh} {M : Me} {b : Int} (h0 : 0 ≤ b) (h1 : b ≤ 100) {n : Nat} (hn : n ≤ 9) : Con kX11_power 0 0 0 [(0, b), (0, (n : Int))] S M (Ex (some (2, pwI b n)) S M) := by
  refine Con.ofV (al := [(0, b), (0, (n : Int)), (9, 0), (9, 0), (9, 0)]) 3 (by decide) (Nat.le_of_ble_eq_true rfl) rfl ?_
  refine r_lconst (x := 1) dX11_power_0 rfl (by decide) ?_
  refine r_lstore_n dX11_power_1 rfl (by decide) sl2 ?_
  refine r_iconst dX11_power_2 (by decide) ?_
  refine r_istore dX11_power_3 rfl (by decide) st4 ?_
  exact l_power h0 h1 hn n 0 (by omega)
theorem l_ways {S : Sh} {M : Me} {b : Nat} (hb : b ≤ 9) {n : Nat} (hn : n ≤ 9) : ∀ (m i : Nat), m + i = n → V kX11_ways 0 0 0 none (Ex (some (2, wyI b n)) S M) 5 [(0, (b : Int)), (0, (n : Int)), (2, wyI b i), (9, 0), (0, (i : Int))] [] S M 0 0 := by
  intro m
  induction m with
  | zero =>
    intro i hi
    obtain rfl : i = n := by omega
    refine r_iload dX11_ways_5 rfl ?_
    refine r_iload_n dX11_ways_7 rfl ?_
    refine r_icmp_ge (tgt := 31) dX11_ways_8 (by decide) (fun h8 => ?_) (fun h8 => by exfalso; omega)
    refine r_lload_n dX11_ways_31 rfl ?_
    refine r_lret dX11_ways_32 rfl ?_
    exact ⟨rfl, rfl, rfl⟩
  | succ m ih =>
    intro i hi
    have h1 := wyI_b b hb i (by omega)
    refine r_iload dX11_ways_5 rfl ?_
    refine r_iload_n dX11_ways_7 rfl ?_
    refine r_icmp_ge (tgt := 31) dX11_ways_8 (by decide) (fun h8 => by exfalso; omega) (fun h8 => ?_)
    refine r_lload_n dX11_ways_11 rfl ?_
    refine r_iload_n dX11_ways_12 rfl ?_
    refine r_iload dX11_ways_13 rfl ?_
    refine r_isub dX11_ways_15 (w32_id (by omega)) ?_
    refine r_i2l dX11_ways_16 ?_
    refine r_lmul dX11_ways_17 (w64_id (by omega)) ?_
    refine r_iload dX11_ways_18 rfl ?_
    refine r_iconst dX11_ways_20 (by decide) ?_
    refine r_iadd dX11_ways_21 (w32_id (by omega)) ?_
    refine r_i2l dX11_ways_22 ?_
    refine r_ldiv dX11_ways_23 (by omega) (db64 (by omega)) ?_
    refine r_lstore_n dX11_ways_24 rfl (by decide) sl2 ?_
    refine r_iinc dX11_ways_25 rfl rfl (by decide) (w32_id (by omega)) st4 ?_
    refine r_goto (tgt := 5) dX11_ways_28 (by decide) ?_
    exact ih (i + 1) (by omega)
theorem c_ways {S : Sh} {M : Me} {b : Nat} (hb : b ≤ 9) {n : Nat} (hn : n ≤ 9) : Con kX11_ways 0 0 0 [(0, (b : Int)), (0, (n : Int))] S M (Ex (some (2, wyI b n)) S M) := by
  refine Con.ofV (al := [(0, (b : Int)), (0, (n : Int)), (9, 0), (9, 0), (9, 0)]) 3 (by decide) (Nat.le_of_ble_eq_true rfl) rfl ?_
  refine r_lconst (x := 1) dX11_ways_0 rfl (by decide) ?_
  refine r_lstore_n dX11_ways_1 rfl (by decide) sl2 ?_
  refine r_iconst dX11_ways_2 (by decide) ?_
  refine r_istore dX11_ways_3 rfl (by decide) st4 ?_
  exact l_ways hb hn n 0 (by omega)
theorem l_common {S : Sh} {M : Me} : ∀ (f : Nat) (u v G : Int) (a b c d : AV), 0 ≤ v → v < f → 0 ≤ u → (Nat.gcd u.toNat v.toNat : Int) = G → V kX11_common 0 0 0 none (Ex (some (2, G)) S M) 6 [a, (9, 0), b, (9, 0), (2, u), (9, 0), (2, v), (9, 0), c, d] [] S M 0 0 := by
  intro f
  induction f with
  | zero => intro u v G a b c d h1 h2; exfalso; omega
  | succ f ih =>
    intro u v G a b c d h1 h2 h3 hG
    refine r_lload dX11_common_6 rfl ?_
    refine r_lconst (x := 0) dX11_common_8 rfl (by decide) ?_
    refine r_lcmp dX11_common_9 ?_
    refine r_if_eq (tgt := 31) dX11_common_10 (by decide) (fun h10 => ?_) (fun h10 => ?_)
    · replace h10 := lc_eq.mp h10
      refine r_lload dX11_common_31 rfl ?_
      refine r_lret dX11_common_33 rfl ?_
      exact ⟨by subst h10; rw [← hG]; exact congrArg (fun z => some (2, z)) (by rw [show (0 : Int).toNat = 0 from rfl, Nat.gcd_zero_right]; omega), rfl, rfl⟩
    · replace h10 := lc_ne.mp h10
      refine r_lload dX11_common_13 rfl ?_
      refine r_lload dX11_common_15 rfl ?_
      refine r_lrem dX11_common_17 (by omega) (rmn h3) ?_
      refine r_lstore dX11_common_18 rfl (by decide) sl8 ?_
      refine r_lload dX11_common_20 rfl ?_
      refine r_lstore dX11_common_22 rfl (by decide) sl4 ?_
      refine r_lload dX11_common_24 rfl ?_
      refine r_lstore dX11_common_26 rfl (by decide) sl6 ?_
      refine r_goto (tgt := 6) dX11_common_28 (by decide) ?_
      refine ih _ _ _ _ _ _ _ (Int.emod_nonneg _ h10) (by have := Int.emod_lt_of_pos u (show 0 < v by omega); omega) h1 ?_
      rw [← hG, show (u % v).toNat = u.toNat % v.toNat by rw [← Int.toNat_emod h3 h1], Nat.gcd_comm u.toNat v.toNat]
      exact congrArg _ ((Nat.gcd_comm _ _).trans (Nat.gcd_rec v.toNat u.toNat).symm)
theorem c_common {S : Sh} {M : Me} {u v : Int} (hu : 0 ≤ u) (hv : 0 ≤ v) : Con kX11_common 0 0 0 [(2, u), (2, v)] S M (Ex (some (2, (Nat.gcd u.toNat v.toNat : Int))) S M) := by
  refine Con.ofV (al := [(2, u), (9, 0), (2, v), (9, 0), (9, 0), (9, 0), (9, 0), (9, 0), (9, 0), (9, 0)]) 6 (by decide) (Nat.le_of_ble_eq_true rfl) rfl ?_
  refine r_lload_n dX11_common_0 rfl ?_
  refine r_lstore dX11_common_1 rfl (by decide) sl4 ?_
  refine r_lload_n dX11_common_3 rfl ?_
  refine r_lstore dX11_common_4 rfl (by decide) sl6 ?_
  exact l_common (v.toNat + 1) _ _ _ _ _ _ _ hv (by omega) hu rfl
def wrT (n : Nat) (p : Int) (k : Nat) : Int := wyI n k * pwI p k * pwI (100 - p) (n - k)
def wrS (n : Nat) (p : Int) (l : Nat) : Nat → Int
  | 0 => 0
  | j + 1 => wrS n p l j + wrT n p (l + j)
theorem wr_b : ∀ n : Nat, n ≤ 9 → ∀ p : Nat, p ≤ 100 → ∀ k : Nat, k ≤ n → 0 ≤ wyI n k * pwI p k ∧ wyI n k * pwI p k ≤ 1000000000000000000 ∧ 0 ≤ wrT n p k ∧ wrS n p 0 k + wrT n p k ≤ 1000000000000000000 := by decide +kernel
theorem wrS_0 {n p : Nat} (hn : n ≤ 9) (hp : p ≤ 100) {l : Nat} : ∀ j : Nat, l + j ≤ n + 1 → 0 ≤ wrS n p l j ∧ wrS n p l j ≤ wrS n p 0 (l + j) := by
  have h0 : ∀ j : Nat, j ≤ n + 1 → 0 ≤ wrS n p 0 j := by
    intro j
    induction j with
    | zero => intro _; exact Int.le_refl _
    | succ j ih =>
      intro hj
      have := ih (by omega)
      have h2 := wr_b n hn p hp j (by omega)
      have e : wrS n p 0 (j + 1) = wrS n p 0 j + wrT n p (0 + j) := rfl
      rw [Nat.zero_add] at e
      omega
  intro j
  induction j with
  | zero => intro hj; exact ⟨Int.le_refl _, h0 l (by omega)⟩
  | succ j ih =>
    intro hj
    have h1 := ih (by omega)
    have h2 := wr_b n hn p hp (l + j) (by omega)
    have e : wrS n p l (j + 1) = wrS n p l j + wrT n p (l + j) := rfl
    have e2 : wrS n p 0 (l + (j + 1)) = wrS n p 0 (l + j) + wrT n p (0 + (l + j)) := rfl
    rw [Nat.zero_add] at e2
    omega
theorem dbg {a b : Int} (h : 0 ≤ a ∧ a ≤ 1000000000000000000) : w64 (a.tdiv b) = a.tdiv b := by
  have h1 : (a.tdiv b).natAbs ≤ a.natAbs := by
    rw [Int.natAbs_tdiv]
    exact Nat.div_le_self _ _
  exact w64_id (by omega)
def wrA2 (n p l : Nat) (f : Int) : Int := (if f = 0 then wrS n p l (n + 1 - l) else pwI 100 n).tdiv (Nat.gcd (wrS n p l (n + 1 - l)).toNat (pwI 100 n).toNat : Int)
theorem l_wrongly {x y z : Int} {M : Me} {n p l : Nat} {a b f : Int} (hn1 : 1 ≤ n) (hn9 : n ≤ 9) (hp : p ≤ 100) (hl : l ≤ 9) : ∀ (m j : Nat), m + j = n + 1 - l → V kX11_wrongly 0 0 1 none (Ex (some (2, wrA2 n p l f)) (Sf x y z) M) 60 [(1, 429), (0, (n : Int)), (0, (l : Int)), (0, a), (0, b), (0, f), (0, (p : Int)), (2, wrS n p l (j : Nat)), (9, 0), (0, (l : Int) + (j : Int)), (9, 0)] [] (Sf x y z) M 0 0 := by
  intro m
  induction m with
  | zero =>
    intro j hi
    obtain rfl : j = n + 1 - l := by omega
    have hb := pwI_b (b := 100) (by decide) (by decide) (i := n) hn9
    have hb2 := pwI_1 (b := 100) (by decide) n
    have hb3 : 0 ≤ wrS n p l (n + 1 - l) ∧ wrS n p l (n + 1 - l) ≤ 1000000000000000000 := by
      by_cases h : l ≤ n
      · have h1 := wrS_0 hn9 hp (l := l) (n + 1 - l) (by omega)
        have h2 := wr_b n hn9 p hp n (Nat.le_refl n)
        have e2 : wrS n p 0 (n + 1) = wrS n p 0 n + wrT n p (0 + n) := rfl
        rw [Nat.zero_add] at e2
        rw [show l + (n + 1 - l) = n + 1 by omega] at h1
        omega
      · rw [show n + 1 - l = 0 by omega]
        exact (show (0 : Int) ≤ 0 ∧ (0 : Int) ≤ 1000000000000000000 by decide)
    have hg : (Nat.gcd (wrS n p l (n + 1 - l)).toNat (pwI 100 n).toNat : Int) ≠ 0 := by
      have := Nat.gcd_pos_of_pos_right (wrS n p l (n + 1 - l)).toNat (show 0 < (pwI 100 n).toNat by omega)
      omega
    refine r_iload dX11_wrongly_60 rfl ?_
    refine r_iload_n dX11_wrongly_62 rfl ?_
    refine r_icmp_gt (tgt := 104) dX11_wrongly_63 (by decide) (fun h63 => ?_) (fun h63 => by exfalso; omega)
    refine r_bipush dX11_wrongly_104 (by decide) (by decide) ?_
    refine r_iload_n dX11_wrongly_106 rfl ?_
    refine r_cs2 dX11_wrongly_107 clX11_435 (by first | decide | omega) (Nat.le_of_ble_eq_true rfl) ((c_power (b := 100) (n := n) (by omega) (by omega) (by omega))) ⟨Nat.zero_le _, Nat.zero_le _⟩ (fun _ => ?_)
    refine r_lstore dX11_wrongly_110 rfl (by decide) sl9 ?_
    refine r_iload dX11_wrongly_112 rfl ?_
    refine r_if_eq (tgt := 122) dX11_wrongly_114 (by decide) (fun h114 => ?_) (fun h114 => ?_)
    · try have h114 := bi_0.mp h114
      refine r_lload dX11_wrongly_122 rfl ?_
      refine r_lload dX11_wrongly_124 rfl ?_
      refine r_lload dX11_wrongly_126 rfl ?_
      refine r_cs2 dX11_wrongly_128 clX11_438 (by first | decide | omega) (Nat.le_of_ble_eq_true rfl) ((c_common (by omega) (by omega))) ⟨Nat.zero_le _, Nat.zero_le _⟩ (fun _ => ?_)
      refine r_ldiv dX11_wrongly_131 hg (dbg (by omega)) ?_
      refine r_lret dX11_wrongly_132 rfl ?_
      first | exact ⟨by unfold wrA2; rw [if_pos h114], rfl, rfl⟩ | exact ⟨by unfold wrA2; rw [if_neg h114], rfl, rfl⟩
    · try have h114 := bi_1.mp h114
      refine r_lload dX11_wrongly_117 rfl ?_
      refine r_goto (tgt := 124) dX11_wrongly_119 (by decide) ?_
      refine r_lload dX11_wrongly_124 rfl ?_
      refine r_lload dX11_wrongly_126 rfl ?_
      refine r_cs2 dX11_wrongly_128 clX11_438 (by first | decide | omega) (Nat.le_of_ble_eq_true rfl) ((c_common (by omega) (by omega))) ⟨Nat.zero_le _, Nat.zero_le _⟩ (fun _ => ?_)
      refine r_ldiv dX11_wrongly_131 hg (dbg (by omega)) ?_
      refine r_lret dX11_wrongly_132 rfl ?_
      first | exact ⟨by unfold wrA2; rw [if_pos h114], rfl, rfl⟩ | exact ⟨by unfold wrA2; rw [if_neg h114], rfl, rfl⟩
  | succ m ih =>
    intro j hi
    have h1 := wyI_b n hn9 (l + j) (by omega)
    have h2 := wr_b n hn9 p hp (l + j) (by omega)
    have h3 := wrS_0 hn9 hp (l := l) j (by omega)
    have h4 := wrS_0 hn9 hp (l := l) (j + 1) (by omega)
    have h5 : 0 ≤ wyI n (l + j) * pwI p (l + j) * pwI (100 - (p : Int)) (n - (l + j)) := h2.2.2.1
    have h6 : wrS n p 0 (l + j) + wyI n (l + j) * pwI p (l + j) * pwI (100 - (p : Int)) (n - (l + j)) ≤ 1000000000000000000 := h2.2.2.2
    have e1 : (l : Int) + (j : Int) = ((l + j : Nat) : Int) := by omega
    have e2 : (n : Int) - ((l + j : Nat) : Int) = ((n - (l + j) : Nat) : Int) := by omega
    refine r_iload dX11_wrongly_60 rfl ?_
    refine r_iload_n dX11_wrongly_62 rfl ?_
    refine r_icmp_gt (tgt := 104) dX11_wrongly_63 (by decide) (fun h63 => by exfalso; omega) (fun h63 => ?_)
    refine r_lload dX11_wrongly_66 rfl ?_
    refine r_iload_n dX11_wrongly_68 rfl ?_
    rw [e1]
    refine r_iload dX11_wrongly_69 rfl ?_
    refine r_cs2 dX11_wrongly_71 clX11_432 (by first | decide | omega) (Nat.le_of_ble_eq_true rfl) ((c_ways (n := l + j) hn9 (by omega))) ⟨Nat.zero_le _, Nat.zero_le _⟩ (fun _ => ?_)
    refine r_iload dX11_wrongly_74 rfl ?_
    refine r_iload dX11_wrongly_76 rfl ?_
    refine r_cs2 dX11_wrongly_78 clX11_435 (by first | decide | omega) (Nat.le_of_ble_eq_true rfl) ((c_power (b := (p : Int)) (n := l + j) (by omega) (by omega) (by omega))) ⟨Nat.zero_le _, Nat.zero_le _⟩ (fun _ => ?_)
    refine r_lmul dX11_wrongly_81 (w64_id (by omega)) ?_
    refine r_bipush dX11_wrongly_82 (by decide) (by decide) ?_
    refine r_iload dX11_wrongly_84 rfl ?_
    refine r_isub dX11_wrongly_86 (w32_id (by omega)) ?_
    refine r_iload_n dX11_wrongly_87 rfl ?_
    refine r_iload dX11_wrongly_88 rfl ?_
    refine r_isub dX11_wrongly_90 (w32_id (by omega)) ?_
    rw [e2]
    refine r_cs2 dX11_wrongly_91 clX11_435 (by first | decide | omega) (Nat.le_of_ble_eq_true rfl) ((c_power (b := 100 - (p : Int)) (n := n - (l + j)) (by omega) (by omega) (by omega))) ⟨Nat.zero_le _, Nat.zero_le _⟩ (fun _ => ?_)
    refine r_lmul dX11_wrongly_94 (w64_id (by omega)) ?_
    refine r_ladd dX11_wrongly_95 (w64_id (by omega)) ?_
    refine r_lstore dX11_wrongly_96 rfl (by decide) sl7 ?_
    refine r_iinc dX11_wrongly_98 rfl rfl (by decide) (w32_id (by omega)) st9 ?_
    refine r_goto (tgt := 60) dX11_wrongly_101 (by decide) ?_
    exact V.al (by rw [show ((l + j : Nat) : Int) + 1 = (l : Int) + ((j + 1 : Nat) : Int) by omega]; rfl) (ih (j + 1) (by omega))
theorem m_wrongly {x y z : Int} {M : Me} {n l a b f : Int} : Con kX11_wrongly 1 0 0 [(1, 429), (0, n), (0, l), (0, a), (0, b), (0, f)] (Sf x y z) M (fun v9 S9 M9 => S9 = (Sf x y z) ∧ (((1 ≤ n ∧ n ≤ 9) ∧ (0 ≤ l ∧ l ≤ 9) ∧ (0 ≤ a ∧ a ≤ 10) ∧ (0 ≤ b ∧ b ≤ 10)) ∧ v9 = some (2, wrA2 n.toNat (a * (10 - b)).toNat l.toNat f) ∧ M9 = M ∨ (¬ ((1 ≤ n ∧ n ≤ 9) ∧ (0 ≤ l ∧ l ≤ 9) ∧ (0 ≤ a ∧ a ≤ 10) ∧ (0 ≤ b ∧ b ≤ 10))) ∧ v9 = some (2, -1) ∧ M9 = M)) := by
  refine Con.ofV (al := [(1, 429), (0, n), (0, l), (0, a), (0, b), (0, f), (9, 0), (9, 0), (9, 0), (9, 0), (9, 0)]) 5 (by decide) (Nat.le_of_ble_eq_true rfl) rfl ?_
  refine r_iload_n dX11_wrongly_0 rfl ?_
  refine r_iconst dX11_wrongly_1 (by decide) ?_
  refine r_bipush dX11_wrongly_2 (by decide) (by decide) ?_
  refine r_cs3 dX11_wrongly_4 clX11_62 (by first | decide | omega) (Nat.le_of_ble_eq_true rfl) (c_isIn) ⟨Nat.zero_le _, Nat.zero_le _⟩ (fun _ => ?_)
  refine r_if_eq (tgt := 41) dX11_wrongly_7 (by decide) (fun h7 => ?_) (fun h7 => ?_)
  · try have h7 := bi_0.mp h7
    refine r_ldc2 (x := -1) dX11_wrongly_41 ctX11_430 (by decide) ?_
    refine r_lret dX11_wrongly_44 rfl ?_
    first | exact ⟨rfl, Or.inl ⟨by omega, rfl, rfl⟩⟩ | exact ⟨rfl, Or.inr (⟨by omega, rfl, rfl⟩)⟩
  · try have h7 := bi_1.mp h7
    refine r_iload_n dX11_wrongly_10 rfl ?_
    refine r_iconst dX11_wrongly_11 (by decide) ?_
    refine r_bipush dX11_wrongly_12 (by decide) (by decide) ?_
    refine r_cs3 dX11_wrongly_14 clX11_62 (by first | decide | omega) (Nat.le_of_ble_eq_true rfl) (c_isIn) ⟨Nat.zero_le _, Nat.zero_le _⟩ (fun _ => ?_)
    refine r_if_eq (tgt := 41) dX11_wrongly_17 (by decide) (fun h17 => ?_) (fun h17 => ?_)
    · try have h17 := bi_0.mp h17
      refine r_ldc2 (x := -1) dX11_wrongly_41 ctX11_430 (by decide) ?_
      refine r_lret dX11_wrongly_44 rfl ?_
      first | exact ⟨rfl, Or.inl ⟨by omega, rfl, rfl⟩⟩ | exact ⟨rfl, Or.inr (⟨by omega, rfl, rfl⟩)⟩
    · try have h17 := bi_1.mp h17
      refine r_iload_n dX11_wrongly_20 rfl ?_
      refine r_iconst dX11_wrongly_21 (by decide) ?_
      refine r_bipush dX11_wrongly_22 (by decide) (by decide) ?_
      refine r_cs3 dX11_wrongly_24 clX11_62 (by first | decide | omega) (Nat.le_of_ble_eq_true rfl) (c_isIn) ⟨Nat.zero_le _, Nat.zero_le _⟩ (fun _ => ?_)
      refine r_if_eq (tgt := 41) dX11_wrongly_27 (by decide) (fun h27 => ?_) (fun h27 => ?_)
      · try have h27 := bi_0.mp h27
        refine r_ldc2 (x := -1) dX11_wrongly_41 ctX11_430 (by decide) ?_
        refine r_lret dX11_wrongly_44 rfl ?_
        first | exact ⟨rfl, Or.inl ⟨by omega, rfl, rfl⟩⟩ | exact ⟨rfl, Or.inr (⟨by omega, rfl, rfl⟩)⟩
      · try have h27 := bi_1.mp h27
        refine r_iload dX11_wrongly_30 rfl ?_
        refine r_iconst dX11_wrongly_32 (by decide) ?_
        refine r_bipush dX11_wrongly_33 (by decide) (by decide) ?_
        refine r_cs3 dX11_wrongly_35 clX11_62 (by first | decide | omega) (Nat.le_of_ble_eq_true rfl) (c_isIn) ⟨Nat.zero_le _, Nat.zero_le _⟩ (fun _ => ?_)
        refine r_if_ne (tgt := 45) dX11_wrongly_38 (by decide) (fun h38 => ?_) (fun h38 => ?_)
        · try have h38 := bi_1.mp h38
          refine r_iload_n dX11_wrongly_45 rfl ?_
          have hp0 := mb2 (a := a) (b := 10 - b) (by omega) (by omega)
          have hp1 : a * (10 - b) ≤ 10 * 10 := Int.mul_le_mul (by omega) (by omega) (by omega) (by decide)
          refine r_bipush dX11_wrongly_46 (by decide) (by decide) ?_
          refine r_iload dX11_wrongly_48 rfl ?_
          refine r_isub dX11_wrongly_50 (w32_id (by omega)) ?_
          refine r_imul dX11_wrongly_51 (w32_id (by omega)) ?_
          refine r_istore dX11_wrongly_52 rfl (by decide) st6 ?_
          refine r_lconst (x := 0) dX11_wrongly_54 rfl (by decide) ?_
          refine r_lstore dX11_wrongly_55 rfl (by decide) sl7 ?_
          refine r_iload_n dX11_wrongly_57 rfl ?_
          refine r_istore dX11_wrongly_58 rfl (by decide) st9 ?_
          obtain ⟨n, rfl⟩ : ∃ k : Nat, n = (k : Int) := ⟨n.toNat, by omega⟩
          obtain ⟨l, rfl⟩ : ∃ k : Nat, l = (k : Int) := ⟨l.toNat, by omega⟩
          obtain ⟨p, hp⟩ : ∃ k : Nat, a * (10 - b) = (k : Int) := ⟨(a * (10 - b)).toNat, by omega⟩
          refine V.mono (V.al (show _ = [(1, 429), (0, (n : Int)), (0, (l : Int)), (0, a), (0, b), (0, f), (0, (p : Int)), (2, 0), (9, 0), (0, (l : Int) + ((0 : Nat) : Int)), (9, 0)] by rw [hp, show (l : Int) + ((0 : Nat) : Int) = (l : Int) by omega]) (l_wrongly (x := x) (y := y) (z := z) (n := n) (p := p) (l := l) (f := f) (M := M) (by omega) (by omega) (by omega) (by omega) (n + 1 - l) 0 (by omega))) (fun v9 S9 M9 q => ⟨q.2.1, Or.inl ⟨by omega, ?_, q.2.2⟩⟩)
          rw [hp]
          exact q.1
        · try have h38 := bi_0.mp h38
          refine r_ldc2 (x := -1) dX11_wrongly_41 ctX11_430 (by decide) ?_
          refine r_lret dX11_wrongly_44 rfl ?_
          first | exact ⟨rfl, Or.inl ⟨by omega, rfl, rfl⟩⟩ | exact ⟨rfl, Or.inr (⟨by omega, rfl, rfl⟩)⟩
