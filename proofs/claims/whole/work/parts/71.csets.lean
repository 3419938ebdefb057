theorem and32_nn {x t : Int} (ht : 0 ≤ t ∧ t < 2147483648) : 0 ≤ and32 x t ∧ and32 x t ≤ t := by
  obtain ⟨n, rfl⟩ : ∃ n : Nat, t = (n : Int) := ⟨t.toNat, by omega⟩
  have h1 : (Int32.ofInt x &&& nI n).toBitVec.toNat ≤ n := by
    show ((Int32.ofInt x).toBitVec &&& (nI n).toBitVec).toNat ≤ n
    rw [BitVec.toNat_and]
    refine Nat.le_trans Nat.and_le_right ?_
    show (BitVec.ofNat 32 n).toNat ≤ n
    rw [BitVec.toNat_ofNat]
    exact Nat.mod_le _ _
  have h2 : and32 x (n : Int) = ((Int32.ofInt x &&& nI n).toBitVec.toNat : Int) := by
    show (Int32.ofInt x &&& nI n).toBitVec.toInt = _
    rw [BitVec.toInt_eq_toNat_cond, if_pos (by omega)]
  rw [h2]; omega
theorem and32_12 {x t : Int} (ht : 0 ≤ t ∧ t < 4096) : 0 ≤ and32 x t ∧ and32 x t < 4096 := by
  have := and32_nn (x := x) (t := t) (by omega)
  omega
theorem shl1_p : ∀ k : Nat, k ≤ 12 → shl32 1 k = ((2 ^ k : Nat) : Int) ∧ 2 ^ k ≤ 4096 := by decide +kernel
def wtC (M : Me) (g : Int) : Nat → Int
  | 0 => 0
  | k + 1 => if M 217 (k : Int) = g then or32 (wtC M g k) (shl32 1 (M 216 (k : Int))) else and32 (wtC M g k) (xor32 (shl32 1 (M 216 (k : Int))) (-1))
theorem wtC_t {M : Me} {g : Int} {k : Nat} (h : M 217 (k : Int) = g) : wtC M g (k + 1) = or32 (wtC M g k) (shl32 1 (M 216 (k : Int))) := if_pos h
theorem wtC_f {M : Me} {g : Int} {k : Nat} (h : ¬ M 217 (k : Int) = g) : wtC M g (k + 1) = and32 (wtC M g k) (xor32 (shl32 1 (M 216 (k : Int))) (-1)) := if_neg h
theorem l_wantedTo {x y z : Int} {M : Me} {g : Int} {nw : Nat} (hnw : M 215 0 = (nw : Int)) (hnw8 : nw ≤ 8) : ∀ (m i : Nat), m + i = nw → V kX5_wantedTo 0 0 0 none (Ex (some (0, wtC M g nw)) (Sf x y z) M) 5 [(1, 12), (1, 49), (0, g), (0, wtC M g i), (0, (i : Int)), (9, 0)] [] (Sf x y z) M 0 0 := by
  intro m
  induction m with
  | zero =>
    intro i hi
    obtain rfl : i = nw := by omega
    refine r_iload dX5_wantedTo_5 rfl ?_
    refine r_aload_n dX5_wantedTo_7 rfl (by decide) ?_
    refine r_getr (x := 215) dX5_wantedTo_8 flX5_68 sf49 (by decide) (by decide) rfl rfl ?_
    refine r_gi 0 dX5_wantedTo_11 flX5_72 sf215 (by decide) (by decide) rfl rfl hnw ?_
    refine r_icmp_ge (tgt := 65) dX5_wantedTo_14 (by decide) (fun h14 => ?_) (fun h14 => by exfalso; omega)
    refine r_iload_n dX5_wantedTo_65 rfl ?_
    refine r_iret dX5_wantedTo_66 rfl ?_
    exact ⟨rfl, rfl, rfl⟩
  | succ m ih =>
    intro i hi
    have ih9 := ih (i + 1) (by omega)
    refine r_iload dX5_wantedTo_5 rfl ?_
    refine r_aload_n dX5_wantedTo_7 rfl (by decide) ?_
    refine r_getr (x := 215) dX5_wantedTo_8 flX5_68 sf49 (by decide) (by decide) rfl rfl ?_
    refine r_gi 0 dX5_wantedTo_11 flX5_72 sf215 (by decide) (by decide) rfl rfl hnw ?_
    refine r_icmp_ge (tgt := 65) dX5_wantedTo_14 (by decide) (fun h14 => by exfalso; omega) (fun h14 => ?_)
    refine r_iconst dX5_wantedTo_17 (by decide) ?_
    refine r_aload_n dX5_wantedTo_18 rfl (by decide) ?_
    refine r_getr (x := 215) dX5_wantedTo_19 flX5_68 sf49 (by decide) (by decide) rfl rfl ?_
    refine r_getr (x := 216) dX5_wantedTo_22 flX5_77 sf215 (by decide) (by decide) rfl rfl ?_
    refine r_iload dX5_wantedTo_25 rfl ?_
    refine r_iald dX5_wantedTo_27 sf216 (by decide) (by omega) (by omega) (by decide) rfl ?_
    refine r_ishl dX5_wantedTo_28 rfl ?_
    refine r_istore dX5_wantedTo_29 rfl (by decide) st5 ?_
    refine r_aload_n dX5_wantedTo_31 rfl (by decide) ?_
    refine r_getr (x := 215) dX5_wantedTo_32 flX5_68 sf49 (by decide) (by decide) rfl rfl ?_
    refine r_getr (x := 217) dX5_wantedTo_35 flX5_80 sf215 (by decide) (by decide) rfl rfl ?_
    refine r_iload dX5_wantedTo_38 rfl ?_
    refine r_iald dX5_wantedTo_40 sf217 (by decide) (by omega) (by omega) (by decide) rfl ?_
    refine r_iload_n dX5_wantedTo_41 rfl ?_
    refine r_icmp_ne (tgt := 52) dX5_wantedTo_42 (by decide) (fun h42 => ?_) (fun h42 => ?_)
    · refine r_iload_n dX5_wantedTo_52 rfl ?_
      refine r_iload dX5_wantedTo_53 rfl ?_
      refine r_iconst dX5_wantedTo_55 (by decide) ?_
      refine r_ixor dX5_wantedTo_56 rfl ?_
      refine r_iand dX5_wantedTo_57 rfl ?_
      refine r_istore_n dX5_wantedTo_58 rfl (by decide) st3 ?_
      refine r_iinc dX5_wantedTo_59 rfl rfl (by decide) (w32_id (by omega)) st4 ?_
      refine r_goto (tgt := 5) dX5_wantedTo_62 (by decide) ?_
      refine wk5 ?_
      first | (rw [wtC_t (by assumption)] at ih9; exact ih9) | (rw [wtC_f (by assumption)] at ih9; exact ih9)
    · refine r_iload_n dX5_wantedTo_45 rfl ?_
      refine r_iload dX5_wantedTo_46 rfl ?_
      refine r_ior dX5_wantedTo_48 rfl ?_
      refine r_goto (tgt := 58) dX5_wantedTo_49 (by decide) ?_
      refine r_istore_n dX5_wantedTo_58 rfl (by decide) st3 ?_
      refine r_iinc dX5_wantedTo_59 rfl rfl (by decide) (w32_id (by omega)) st4 ?_
      refine r_goto (tgt := 5) dX5_wantedTo_62 (by decide) ?_
      refine wk5 ?_
      first | (rw [wtC_t (by assumption)] at ih9; exact ih9) | (rw [wtC_f (by assumption)] at ih9; exact ih9)
theorem c_wantedTo {x y z : Int} {M : Me} {g : Int} {nw : Nat} (hnw : M 215 0 = (nw : Int)) (hnw8 : nw ≤ 8) : Con kX5_wantedTo 0 0 0 [(1, 12), (1, 49), (0, g)] (Sf x y z) M (Ex (some (0, wtC M g nw)) (Sf x y z) M) := by
  refine Con.ofV (al := [(1, 12), (1, 49), (0, g), (9, 0), (9, 0), (9, 0)]) 3 (by decide) (Nat.le_of_ble_eq_true rfl) rfl ?_
  refine r_iconst dX5_wantedTo_0 (by decide) ?_
  refine r_istore_n dX5_wantedTo_1 rfl (by decide) st3 ?_
  refine r_iconst dX5_wantedTo_2 (by decide) ?_
  refine r_istore dX5_wantedTo_3 rfl (by decide) st4 ?_
  exact l_wantedTo hnw hnw8 nw 0 (by omega)
theorem l_isWhole {x y z : Int} {M : Me} {s t : Int} {n : Nat} (hn : M 50 3 = (n : Int)) (hn12 : n ≤ 12) : ∀ (m i : Nat), m + i = n → clo (fun c => M 214 c) t s i → V kX5_isWhole 0 0 0 none (Ex (some (0, bic (clo (fun c => M 214 c) t s n))) (Sf x y z) M) 3 [(1, 12), (1, 49), (0, s), (0, t), (0, (i : Int))] [] (Sf x y z) M 0 0 := by
  intro m
  induction m with
  | zero =>
    intro i hi hc
    obtain rfl : i = n := by omega
    refine r_iload dX5_isWhole_3 rfl ?_
    refine r_aload_n dX5_isWhole_5 rfl (by decide) ?_
    refine r_getr (x := 50) dX5_isWhole_6 flX5_18 sf49 (by decide) (by decide) rfl rfl ?_
    refine r_gi 3 dX5_isWhole_9 flX5_83 sf50 (by decide) (by decide) rfl rfl hn ?_
    refine r_icmp_ge (tgt := 49) dX5_isWhole_12 (by decide) (fun h12 => ?_) (fun h12 => by exfalso; omega)
    refine r_iconst dX5_isWhole_49 (by decide) ?_
    refine r_zret dX5_isWhole_50 rfl (by omega) ?_
    exact ⟨by rw [bic_t hc], rfl, rfl⟩
  | succ m ih =>
    intro i hi hc
    refine r_iload dX5_isWhole_3 rfl ?_
    refine r_aload_n dX5_isWhole_5 rfl (by decide) ?_
    refine r_getr (x := 50) dX5_isWhole_6 flX5_18 sf49 (by decide) (by decide) rfl rfl ?_
    refine r_gi 3 dX5_isWhole_9 flX5_83 sf50 (by decide) (by decide) rfl rfl hn ?_
    refine r_icmp_ge (tgt := 49) dX5_isWhole_12 (by decide) (fun h12 => by exfalso; omega) (fun h12 => ?_)
    refine r_iload_n dX5_isWhole_15 rfl ?_
    refine r_iload dX5_isWhole_16 rfl ?_
    refine r_ishr dX5_isWhole_18 rfl ?_
    refine r_iconst dX5_isWhole_19 (by decide) ?_
    refine r_iand dX5_isWhole_20 rfl ?_
    refine r_iconst dX5_isWhole_21 (by decide) ?_
    refine r_icmp_ne (tgt := 43) dX5_isWhole_22 (by decide) (fun h22 => ?_) (fun h22 => ?_)
    · refine r_iinc dX5_isWhole_43 rfl rfl (by decide) (w32_id (by omega)) st4 ?_
      refine r_goto (tgt := 3) dX5_isWhole_46 (by decide) ?_
      exact ih (i + 1) (by omega) (clo_s hc (fun q => by first | exact absurd q (by assumption) | assumption))
    · refine r_aload_n dX5_isWhole_25 rfl (by decide) ?_
      refine r_getr (x := 214) dX5_isWhole_26 flX5_86 sf49 (by decide) (by decide) rfl rfl ?_
      refine r_iload dX5_isWhole_29 rfl ?_
      refine r_iald dX5_isWhole_31 sf214 (by decide) (by omega) (by omega) (by decide) rfl ?_
      refine r_iload_n dX5_isWhole_32 rfl ?_
      refine r_iand dX5_isWhole_33 rfl ?_
      refine r_iload_n dX5_isWhole_34 rfl ?_
      refine r_iconst dX5_isWhole_35 (by decide) ?_
      refine r_ixor dX5_isWhole_36 rfl ?_
      refine r_iand dX5_isWhole_37 rfl ?_
      refine r_if_eq (tgt := 43) dX5_isWhole_38 (by decide) (fun h38 => ?_) (fun h38 => ?_)
      · refine r_iinc dX5_isWhole_43 rfl rfl (by decide) (w32_id (by omega)) st4 ?_
        refine r_goto (tgt := 3) dX5_isWhole_46 (by decide) ?_
        exact ih (i + 1) (by omega) (clo_s hc (fun q => by first | exact absurd q (by assumption) | assumption))
      · refine r_iconst dX5_isWhole_41 (by decide) ?_
        refine r_zret dX5_isWhole_42 rfl (by omega) ?_
        exact ⟨by rw [bic_f (fun q => absurd (q i (by omega) (by assumption)) (by assumption))], rfl, rfl⟩
theorem c_isWhole {x y z : Int} {M : Me} {s t : Int} {n : Nat} (hn : M 50 3 = (n : Int)) (hn12 : n ≤ 12) : Con kX5_isWhole 0 0 0 [(1, 12), (1, 49), (0, s), (0, t)] (Sf x y z) M (Ex (some (0, bic (clo (fun c => M 214 c) t s n))) (Sf x y z) M) := by
  refine Con.ofV (al := [(1, 12), (1, 49), (0, s), (0, t), (9, 0)]) 1 (by decide) (Nat.le_of_ble_eq_true rfl) rfl ?_
  refine r_iconst dX5_isWhole_0 (by decide) ?_
  refine r_istore dX5_isWhole_1 rfl (by decide) st4 ?_
  exact l_isWhole hn hn12 n 0 (by omega) (fun c hc => absurd hc (by omega))
def thC (M : Me) (n : Nat) : Int := bset (fun c : Int => M 52 c = 0) (fun c => c) n
/-- the i-th subset -/
def sbC (t : Int) : Nat → Int
  | 0 => 0
  | i + 1 => and32 (w32 (sbC t i - t)) t
theorem sbC_b {t : Int} (ht : 0 ≤ t ∧ t < 4096) : ∀ i : Nat, 0 ≤ sbC t i ∧ sbC t i < 4096 := by
  intro i
  cases i with
  | zero => exact (show (0 : Int) ≤ 0 ∧ (0 : Int) < 4096 by decide)
  | succ i => exact and32_12 ht
abbrev cuP (M : Me) (n nw : Nat) (s : Int) : Prop := and32 s (and32 (wtC M 0 nw) (thC M n)) = 0 ∧ and32 s (and32 (wtC M 1 nw) (thC M n)) = and32 (wtC M 1 nw) (thC M n) ∧ clo (fun c => M 214 c) (thC M n) s n
def cuW (M : Me) (n : Nat) (s : Int) : Int := wsC M n s * 13 + (pcn s.toNat : Int)
/-- the best of the first so many subsets, and its weight -/
noncomputable def cuS (M : Me) (n nw : Nat) : Nat → Int × Int
  | 0 => (-1, 1000000)
  | i + 1 => @ite _ (cuP M n nw (sbC (thC M n) i)) (Classical.propDecidable _) (if cuW M n (sbC (thC M n) i) < (cuS M n nw i).2 then sbC (thC M n) i else (cuS M n nw i).1, min (cuS M n nw i).2 (cuW M n (sbC (thC M n) i))) (cuS M n nw i)
theorem cuS_f {M : Me} {n nw i : Nat} (h : ¬ cuP M n nw (sbC (thC M n) i)) : cuS M n nw (i + 1) = cuS M n nw i := @if_neg _ (Classical.propDecidable _) h _ _ _
theorem cuS_t {M : Me} {n nw i : Nat} (h : cuP M n nw (sbC (thC M n) i)) : cuS M n nw (i + 1) = (if cuW M n (sbC (thC M n) i) < (cuS M n nw i).2 then sbC (thC M n) i else (cuS M n nw i).1, min (cuS M n nw i).2 (cuW M n (sbC (thC M n) i))) := @if_pos _ (Classical.propDecidable _) h _ _ _
theorem cuS_1 {M : Me} {n nw i : Nat} (h : cuP M n nw (sbC (thC M n) i)) (h2 : cuW M n (sbC (thC M n) i) < (cuS M n nw i).2) : cuS M n nw (i + 1) = (sbC (thC M n) i, min (cuS M n nw i).2 (cuW M n (sbC (thC M n) i))) := by rw [cuS_t h, if_pos h2]
theorem cuS_2 {M : Me} {n nw i : Nat} (h : cuP M n nw (sbC (thC M n) i)) (h2 : ¬ cuW M n (sbC (thC M n) i) < (cuS M n nw i).2) : cuS M n nw (i + 1) = ((cuS M n nw i).1, min (cuS M n nw i).2 (cuW M n (sbC (thC M n) i))) := by rw [cuS_t h, if_neg h2]
theorem thC_b {M : Me} {n : Nat} (hn : n ≤ 12) : 0 ≤ thC M n ∧ thC M n < 4096 := bset4 n hn
theorem l_setToPress {x y z : Int} {M : Me} {n : Nat} (hn : M 50 3 = (n : Int)) (hn12 : n ≤ 12) {nw : Nat} (hnw : M 215 0 = (nw : Int)) (hnw8 : nw ≤ 8) (hw : ∀ c : Int, 0 ≤ c → c < n → -9 ≤ M 212 c ∧ M 212 c ≤ 9) {N : Nat} (hN : N = 2 ^ pcn (thC M n).toNat) : ∀ (m i : Nat), m + i = N → V kX5_setToPress 0 0 3 none (Ex (some (0, (cuS M n nw N).1)) (Sf x y z) M) 37 [(1, 12), (1, 49), (0, thC M n), (0, and32 (wtC M 1 nw) (thC M n)), (0, and32 (wtC M 0 nw) (thC M n)), (0, (cuS M n nw i).1), (0, (cuS M n nw i).2), (0, (sbC (thC M n) i)), (0, (i : Int)), (9, 0)] [] (Sf x y z) M 0 0 := by
  have hp := pcn_le (thC M n).toNat (by have := thC_b (M := M) hn12; omega)
  have h2 := shl1_p _ hp
  have htb := thC_b (M := M) hn12
  rw [← hN] at h2
  intro m
  induction m with
  | zero =>
    intro i hi
    obtain rfl : i = N := by omega
    refine r_iload dX5_setToPress_37 rfl ?_
    refine r_iconst dX5_setToPress_39 (by decide) ?_
    refine r_iload_n dX5_setToPress_40 rfl ?_
    refine r_cs1 dX5_setToPress_41 clX5_55 (by first | decide | omega) (Nat.le_of_ble_eq_true rfl) ((c_bitCount (thC_b hn12))) ⟨Nat.zero_le _, Nat.zero_le _⟩ (fun _ => ?_)
    refine r_ishl dX5_setToPress_44 h2.1 ?_
    refine r_icmp_ge (tgt := 131) dX5_setToPress_45 (by decide) (fun h45 => ?_) (fun h45 => by exfalso; omega)
    refine r_iload dX5_setToPress_131 rfl ?_
    refine r_iret dX5_setToPress_133 rfl ?_
    exact ⟨rfl, rfl, rfl⟩
  | succ m ih =>
    intro i hi
    have hs := sbC_b htb i
    have hwb := wsC_b (M := M) (s := (sbC (thC M n) i)) (n := n) hw hn12
    have hpb := pcn_le (sbC (thC M n) i).toNat (by omega)
    have hcw : cuW M n (sbC (thC M n) i) = wsC M n (sbC (thC M n) i) * 13 + (pcn (sbC (thC M n) i).toNat : Int) := rfl
    refine r_iload dX5_setToPress_37 rfl ?_
    refine r_iconst dX5_setToPress_39 (by decide) ?_
    refine r_iload_n dX5_setToPress_40 rfl ?_
    refine r_cs1 dX5_setToPress_41 clX5_55 (by first | decide | omega) (Nat.le_of_ble_eq_true rfl) ((c_bitCount (thC_b hn12))) ⟨Nat.zero_le _, Nat.zero_le _⟩ (fun _ => ?_)
    refine r_ishl dX5_setToPress_44 h2.1 ?_
    refine r_icmp_ge (tgt := 131) dX5_setToPress_45 (by decide) (fun h45 => by exfalso; omega) (fun h45 => ?_)
    refine r_iload dX5_setToPress_48 rfl ?_
    refine r_iload dX5_setToPress_50 rfl ?_
    refine r_iand dX5_setToPress_52 rfl ?_
    refine r_if_ne (tgt := 117) dX5_setToPress_53 (by decide) (fun h53 => ?_) (fun h53 => ?_)
    · refine r_iload dX5_setToPress_117 rfl ?_
      refine r_iload_n dX5_setToPress_119 rfl ?_
      refine r_isub dX5_setToPress_120 rfl ?_
      refine r_iload_n dX5_setToPress_121 rfl ?_
      refine r_iand dX5_setToPress_122 rfl ?_
      refine r_istore dX5_setToPress_123 rfl (by decide) st7 ?_
      refine r_iinc dX5_setToPress_125 rfl rfl (by decide) (w32_id (by omega)) st8 ?_
      refine r_goto (tgt := 37) dX5_setToPress_128 (by decide) ?_
      refine wk9 ?_
      have ih9 := ih (i + 1) (by omega)
      rw [show sbC (thC M n) (i + 1) = and32 (w32 ((sbC (thC M n) i) - thC M n)) (thC M n) from rfl] at ih9
      first | (rw [cuS_1 ⟨by assumption, by assumption, bic_1 (by assumption)⟩ (by assumption)] at ih9; exact ih9) | (rw [cuS_2 ⟨by assumption, by assumption, bic_1 (by assumption)⟩ (Int.not_lt.mpr (by assumption))] at ih9; exact ih9) | (rw [cuS_f (fun q => by first | exact absurd q.1 (by assumption) | exact absurd q.2.1 (by assumption) | exact absurd q.2.2 (bic_0 (by assumption)))] at ih9; exact ih9)
    · refine r_iload dX5_setToPress_56 rfl ?_
      refine r_iload_n dX5_setToPress_58 rfl ?_
      refine r_iand dX5_setToPress_59 rfl ?_
      refine r_iload_n dX5_setToPress_60 rfl ?_
      refine r_icmp_ne (tgt := 117) dX5_setToPress_61 (by decide) (fun h61 => ?_) (fun h61 => ?_)
      · refine r_iload dX5_setToPress_117 rfl ?_
        refine r_iload_n dX5_setToPress_119 rfl ?_
        refine r_isub dX5_setToPress_120 rfl ?_
        refine r_iload_n dX5_setToPress_121 rfl ?_
        refine r_iand dX5_setToPress_122 rfl ?_
        refine r_istore dX5_setToPress_123 rfl (by decide) st7 ?_
        refine r_iinc dX5_setToPress_125 rfl rfl (by decide) (w32_id (by omega)) st8 ?_
        refine r_goto (tgt := 37) dX5_setToPress_128 (by decide) ?_
        refine wk9 ?_
        have ih9 := ih (i + 1) (by omega)
        rw [show sbC (thC M n) (i + 1) = and32 (w32 ((sbC (thC M n) i) - thC M n)) (thC M n) from rfl] at ih9
        first | (rw [cuS_1 ⟨by assumption, by assumption, bic_1 (by assumption)⟩ (by assumption)] at ih9; exact ih9) | (rw [cuS_2 ⟨by assumption, by assumption, bic_1 (by assumption)⟩ (Int.not_lt.mpr (by assumption))] at ih9; exact ih9) | (rw [cuS_f (fun q => by first | exact absurd q.1 (by assumption) | exact absurd q.2.1 (by assumption) | exact absurd q.2.2 (bic_0 (by assumption)))] at ih9; exact ih9)
      · refine r_aload_n dX5_setToPress_64 rfl (by decide) ?_
        refine r_aload_n dX5_setToPress_65 rfl (by decide) ?_
        refine r_iload dX5_setToPress_66 rfl ?_
        refine r_iload_n dX5_setToPress_68 rfl ?_
        refine r_cv3 dX5_setToPress_69 clX5_61 sf12 (by decide) (by decide) rfl (by first | decide | omega) (Nat.le_of_ble_eq_true rfl) ((c_isWhole hn hn12)) ⟨Nat.zero_le _, Nat.zero_le _⟩ (fun _ => ?_)
        refine r_if_eq (tgt := 117) dX5_setToPress_72 (by decide) (fun h72 => ?_) (fun h72 => ?_)
        · refine r_iload dX5_setToPress_117 rfl ?_
          refine r_iload_n dX5_setToPress_119 rfl ?_
          refine r_isub dX5_setToPress_120 rfl ?_
          refine r_iload_n dX5_setToPress_121 rfl ?_
          refine r_iand dX5_setToPress_122 rfl ?_
          refine r_istore dX5_setToPress_123 rfl (by decide) st7 ?_
          refine r_iinc dX5_setToPress_125 rfl rfl (by decide) (w32_id (by omega)) st8 ?_
          refine r_goto (tgt := 37) dX5_setToPress_128 (by decide) ?_
          refine wk9 ?_
          have ih9 := ih (i + 1) (by omega)
          rw [show sbC (thC M n) (i + 1) = and32 (w32 ((sbC (thC M n) i) - thC M n)) (thC M n) from rfl] at ih9
          first | (rw [cuS_1 ⟨by assumption, by assumption, bic_1 (by assumption)⟩ (by assumption)] at ih9; exact ih9) | (rw [cuS_2 ⟨by assumption, by assumption, bic_1 (by assumption)⟩ (Int.not_lt.mpr (by assumption))] at ih9; exact ih9) | (rw [cuS_f (fun q => by first | exact absurd q.1 (by assumption) | exact absurd q.2.1 (by assumption) | exact absurd q.2.2 (bic_0 (by assumption)))] at ih9; exact ih9)
        · refine r_aload_n dX5_setToPress_75 rfl (by decide) ?_
          refine r_iload dX5_setToPress_76 rfl ?_
          refine r_cv1 dX5_setToPress_78 clX5_65 sf49 (by decide) (by decide) rfl (by first | decide | omega) (Nat.le_of_ble_eq_true rfl) ((c_worthOf hn hn12 hw)) ⟨Nat.zero_le _, Nat.zero_le _⟩ (fun _ => ?_)
          refine r_bipush dX5_setToPress_81 (by decide) (by decide) ?_
          refine r_imul dX5_setToPress_83 (w32_id (by omega)) ?_
          refine r_iload dX5_setToPress_84 rfl ?_
          refine r_cs1 dX5_setToPress_86 clX5_55 (by first | decide | omega) (Nat.le_of_ble_eq_true rfl) ((c_bitCount hs)) ⟨Nat.zero_le _, Nat.zero_le _⟩ (fun _ => ?_)
          refine r_iadd dX5_setToPress_89 (w32_id (by omega)) ?_
          rw [← hcw]
          refine r_istore dX5_setToPress_90 rfl (by decide) st9 ?_
          refine r_iload dX5_setToPress_92 rfl ?_
          refine r_iload dX5_setToPress_94 rfl ?_
          refine r_icmp_ge (tgt := 104) dX5_setToPress_96 (by decide) (fun h96 => ?_) (fun h96 => ?_)
          · refine r_iload dX5_setToPress_104 rfl ?_
            refine r_istore dX5_setToPress_106 rfl (by decide) st5 ?_
            refine r_iload dX5_setToPress_108 rfl ?_
            refine r_iload dX5_setToPress_110 rfl ?_
            refine r_mmin dX5_setToPress_112 clmX5_33 ma_min1 ii_Math ma_min2 (by decide) (Nat.le_of_ble_eq_true rfl) rfl ?_
            refine r_istore dX5_setToPress_115 rfl (by decide) st6 ?_
            refine r_iload dX5_setToPress_117 rfl ?_
            refine r_iload_n dX5_setToPress_119 rfl ?_
            refine r_isub dX5_setToPress_120 rfl ?_
            refine r_iload_n dX5_setToPress_121 rfl ?_
            refine r_iand dX5_setToPress_122 rfl ?_
            refine r_istore dX5_setToPress_123 rfl (by decide) st7 ?_
            refine r_iinc dX5_setToPress_125 rfl rfl (by decide) (w32_id (by omega)) st8 ?_
            refine r_goto (tgt := 37) dX5_setToPress_128 (by decide) ?_
            refine wk9 ?_
            have ih9 := ih (i + 1) (by omega)
            rw [show sbC (thC M n) (i + 1) = and32 (w32 ((sbC (thC M n) i) - thC M n)) (thC M n) from rfl] at ih9
            first | (rw [cuS_1 ⟨by assumption, by assumption, bic_1 (by assumption)⟩ (by assumption)] at ih9; exact ih9) | (rw [cuS_2 ⟨by assumption, by assumption, bic_1 (by assumption)⟩ (Int.not_lt.mpr (by assumption))] at ih9; exact ih9) | (rw [cuS_f (fun q => by first | exact absurd q.1 (by assumption) | exact absurd q.2.1 (by assumption) | exact absurd q.2.2 (bic_0 (by assumption)))] at ih9; exact ih9)
          · refine r_iload dX5_setToPress_99 rfl ?_
            refine r_goto (tgt := 106) dX5_setToPress_101 (by decide) ?_
            refine r_istore dX5_setToPress_106 rfl (by decide) st5 ?_
            refine r_iload dX5_setToPress_108 rfl ?_
            refine r_iload dX5_setToPress_110 rfl ?_
            refine r_mmin dX5_setToPress_112 clmX5_33 ma_min1 ii_Math ma_min2 (by decide) (Nat.le_of_ble_eq_true rfl) rfl ?_
            refine r_istore dX5_setToPress_115 rfl (by decide) st6 ?_
            refine r_iload dX5_setToPress_117 rfl ?_
            refine r_iload_n dX5_setToPress_119 rfl ?_
            refine r_isub dX5_setToPress_120 rfl ?_
            refine r_iload_n dX5_setToPress_121 rfl ?_
            refine r_iand dX5_setToPress_122 rfl ?_
            refine r_istore dX5_setToPress_123 rfl (by decide) st7 ?_
            refine r_iinc dX5_setToPress_125 rfl rfl (by decide) (w32_id (by omega)) st8 ?_
            refine r_goto (tgt := 37) dX5_setToPress_128 (by decide) ?_
            refine wk9 ?_
            have ih9 := ih (i + 1) (by omega)
            rw [show sbC (thC M n) (i + 1) = and32 (w32 ((sbC (thC M n) i) - thC M n)) (thC M n) from rfl] at ih9
            first | (rw [cuS_1 ⟨by assumption, by assumption, bic_1 (by assumption)⟩ (by assumption)] at ih9; exact ih9) | (rw [cuS_2 ⟨by assumption, by assumption, bic_1 (by assumption)⟩ (Int.not_lt.mpr (by assumption))] at ih9; exact ih9) | (rw [cuS_f (fun q => by first | exact absurd q.1 (by assumption) | exact absurd q.2.1 (by assumption) | exact absurd q.2.2 (bic_0 (by assumption)))] at ih9; exact ih9)
theorem c_setToPress {x y z : Int} {M : Me} {n : Nat} (hn : M 50 3 = (n : Int)) (hn12 : n ≤ 12) {nw : Nat} (hnw : M 215 0 = (nw : Int)) (hnw8 : nw ≤ 8) (hw : ∀ c : Int, 0 ≤ c → c < n → -9 ≤ M 212 c ∧ M 212 c ≤ 9) : Con kX5_setToPress 3 0 0 [(1, 12), (1, 49)] (Sf x y z) M (Ex (some (0, (cuS M n nw (2 ^ pcn (thC M n).toNat)).1)) (Sf x y z) M) := by
  refine Con.ofV (al := [(1, 12), (1, 49), (9, 0), (9, 0), (9, 0), (9, 0), (9, 0), (9, 0), (9, 0), (9, 0)]) 8 (by decide) (Nat.le_of_ble_eq_true rfl) rfl ?_
  refine r_aload_n dX5_setToPress_0 rfl (by decide) ?_
  refine r_cv0 dX5_setToPress_1 clX5_46 sf49 (by decide) (by decide) rfl (by first | decide | omega) (Nat.le_of_ble_eq_true rfl) ((s_allThere hn hn12)) ⟨Nat.zero_le _, Nat.zero_le _⟩ (fun _ => ?_)
  rw [show bset (fun c : Int => M 52 c = 0) (fun c => c) n = thC M n from rfl]
  refine r_istore_n dX5_setToPress_4 rfl (by decide) st2 ?_
  refine r_aload_n dX5_setToPress_5 rfl (by decide) ?_
  refine r_aload_n dX5_setToPress_6 rfl (by decide) ?_
  refine r_iconst dX5_setToPress_7 (by decide) ?_
  refine r_cv2 dX5_setToPress_8 clX5_50 sf12 (by decide) (by decide) rfl (by first | decide | omega) (Nat.le_of_ble_eq_true rfl) ((c_wantedTo hnw hnw8)) ⟨Nat.zero_le _, Nat.zero_le _⟩ (fun _ => ?_)
  refine r_iload_n dX5_setToPress_11 rfl ?_
  refine r_iand dX5_setToPress_12 rfl ?_
  refine r_istore_n dX5_setToPress_13 rfl (by decide) st3 ?_
  refine r_aload_n dX5_setToPress_14 rfl (by decide) ?_
  refine r_aload_n dX5_setToPress_15 rfl (by decide) ?_
  refine r_iconst dX5_setToPress_16 (by decide) ?_
  refine r_cv2 dX5_setToPress_17 clX5_50 sf12 (by decide) (by decide) rfl (by first | decide | omega) (Nat.le_of_ble_eq_true rfl) ((c_wantedTo hnw hnw8)) ⟨Nat.zero_le _, Nat.zero_le _⟩ (fun _ => ?_)
  refine r_iload_n dX5_setToPress_20 rfl ?_
  refine r_iand dX5_setToPress_21 rfl ?_
  refine r_istore dX5_setToPress_22 rfl (by decide) st4 ?_
  refine r_iconst dX5_setToPress_24 (by decide) ?_
  refine r_istore dX5_setToPress_25 rfl (by decide) st5 ?_
  refine r_ldc (x := 1000000) dX5_setToPress_27 ctX5_54 (by decide) ?_
  refine r_istore dX5_setToPress_29 rfl (by decide) st6 ?_
  refine r_iconst dX5_setToPress_31 (by decide) ?_
  refine r_istore dX5_setToPress_32 rfl (by decide) st7 ?_
  refine r_iconst dX5_setToPress_34 (by decide) ?_
  refine r_istore dX5_setToPress_35 rfl (by decide) st8 ?_
  exact l_setToPress hn hn12 hnw hnw8 hw rfl _ 0 (Nat.add_zero _)
def ftP (Nr : Int → Int) (k s : Int) (n : Nat) : Prop := ∀ c : Nat, c < n → and32 (shr32 s c) 1 = 1 → (pcn (and32 s (Nr c)).toNat : Int) ≤ k
theorem ftP_s {Nr : Int → Int} {k s : Int} {n : Nat} (h : ftP Nr k s n) (h2 : and32 (shr32 s n) 1 = 1 → (pcn (and32 s (Nr n)).toNat : Int) ≤ k) : ftP Nr k s (n + 1) := fun c hc q => by
  by_cases e : c = n
  · subst e; exact h2 q
  · exact h c (by omega) q
theorem l_isFlatC {x y z : Int} {M : Me} {s k : Int} {n : Nat} (hn : M 50 3 = (n : Int)) (hn12 : n ≤ 12) (hr : ∀ c : Int, 0 ≤ c → c < n → 0 ≤ M 13 c ∧ M 13 c < 4096) : ∀ (m i : Nat), m + i = n → ftP (fun c => M 13 c) k s i → V kX5_isFlat 0 0 1 none (Ex (some (0, bic (ftP (fun c => M 13 c) k s n))) (Sf x y z) M) 3 [(1, 12), (1, 49), (0, s), (0, k), (0, (i : Int))] [] (Sf x y z) M 0 0 := by
  intro m
  induction m with
  | zero =>
    intro i hi hc
    obtain rfl : i = n := by omega
    refine r_iload dX5_isFlat_3 rfl ?_
    refine r_aload_n dX5_isFlat_5 rfl (by decide) ?_
    refine r_getr (x := 50) dX5_isFlat_6 flX5_18 sf49 (by decide) (by decide) rfl rfl ?_
    refine r_gi 3 dX5_isFlat_9 flX5_83 sf50 (by decide) (by decide) rfl rfl hn ?_
    refine r_icmp_ge (tgt := 49) dX5_isFlat_12 (by decide) (fun h12 => ?_) (fun h12 => by exfalso; omega)
    refine r_iconst dX5_isFlat_49 (by decide) ?_
    refine r_zret dX5_isFlat_50 rfl (by omega) ?_
    exact ⟨by rw [bic_t hc], rfl, rfl⟩
  | succ m ih =>
    intro i hi hc
    refine r_iload dX5_isFlat_3 rfl ?_
    refine r_aload_n dX5_isFlat_5 rfl (by decide) ?_
    refine r_getr (x := 50) dX5_isFlat_6 flX5_18 sf49 (by decide) (by decide) rfl rfl ?_
    refine r_gi 3 dX5_isFlat_9 flX5_83 sf50 (by decide) (by decide) rfl rfl hn ?_
    refine r_icmp_ge (tgt := 49) dX5_isFlat_12 (by decide) (fun h12 => by exfalso; omega) (fun h12 => ?_)
    refine r_iload_n dX5_isFlat_15 rfl ?_
    refine r_iload dX5_isFlat_16 rfl ?_
    refine r_ishr dX5_isFlat_18 rfl ?_
    refine r_iconst dX5_isFlat_19 (by decide) ?_
    refine r_iand dX5_isFlat_20 rfl ?_
    refine r_iconst dX5_isFlat_21 (by decide) ?_
    refine r_icmp_ne (tgt := 43) dX5_isFlat_22 (by decide) (fun h22 => ?_) (fun h22 => ?_)
    · refine r_iinc dX5_isFlat_43 rfl rfl (by decide) (w32_id (by omega)) st4 ?_
      refine r_goto (tgt := 3) dX5_isFlat_46 (by decide) ?_
      exact ih (i + 1) (by omega) (ftP_s hc (fun q => by first | exact absurd q (by assumption) | assumption))
    · refine r_iload_n dX5_isFlat_25 rfl ?_
      refine r_aload_n dX5_isFlat_26 rfl (by decide) ?_
      refine r_getr (x := 13) dX5_isFlat_27 flX5_9 sf12 (by decide) (by decide) rfl rfl ?_
      refine r_iload dX5_isFlat_30 rfl ?_
      refine r_iald dX5_isFlat_32 sf13 (by decide) (by omega) (by omega) (by decide) rfl ?_
      refine r_iand dX5_isFlat_33 rfl ?_
      refine r_cs1 dX5_isFlat_34 clX5_55 (by first | decide | omega) (Nat.le_of_ble_eq_true rfl) ((c_bitCount (and32_12 (hr i (by omega) (by omega))))) ⟨Nat.zero_le _, Nat.zero_le _⟩ (fun _ => ?_)
      refine r_iload_n dX5_isFlat_37 rfl ?_
      refine r_icmp_le (tgt := 43) dX5_isFlat_38 (by decide) (fun h38 => ?_) (fun h38 => ?_)
      · refine r_iinc dX5_isFlat_43 rfl rfl (by decide) (w32_id (by omega)) st4 ?_
        refine r_goto (tgt := 3) dX5_isFlat_46 (by decide) ?_
        exact ih (i + 1) (by omega) (ftP_s hc (fun q => by first | exact absurd q (by assumption) | assumption))
      · refine r_iconst dX5_isFlat_41 (by decide) ?_
        refine r_zret dX5_isFlat_42 rfl (by omega) ?_
        exact ⟨by rw [bic_f (fun q => absurd (q i (by omega) (by assumption)) (Int.not_le.mpr (by assumption)))], rfl, rfl⟩
theorem c_isFlatC {x y z : Int} {M : Me} {s k : Int} {n : Nat} (hn : M 50 3 = (n : Int)) (hn12 : n ≤ 12) (hr : ∀ c : Int, 0 ≤ c → c < n → 0 ≤ M 13 c ∧ M 13 c < 4096) : Con kX5_isFlat 1 0 0 [(1, 12), (1, 49), (0, s), (0, k)] (Sf x y z) M (Ex (some (0, bic (ftP (fun c => M 13 c) k s n))) (Sf x y z) M) := by
  refine Con.ofV (al := [(1, 12), (1, 49), (0, s), (0, k), (9, 0)]) 1 (by decide) (Nat.le_of_ble_eq_true rfl) rfl ?_
  refine r_iconst dX5_isFlat_0 (by decide) ?_
  refine r_istore dX5_isFlat_1 rfl (by decide) st4 ?_
  exact l_isFlatC hn hn12 hr n 0 (by omega) (fun c hc => absurd hc (by omega))
/-- near a CREASE -/
def nrC (M : Me) (n : Nat) (p w : Int) (i : Int) : Int := and32 (owC M n p) (wiC M n (M 210 i) w)
noncomputable def flS (Nr : Int → Int) (n : Nat) (al k : Int) : Nat → Int
  | 0 => 0
  | i + 1 => @ite _ (pcn (flS Nr n al k i).toNat < pcn (sbC al i).toNat ∧ ftP Nr k (sbC al i) n) (Classical.propDecidable _) (sbC al i) (flS Nr n al k i)
theorem flS_t {Nr : Int → Int} {n : Nat} {al k : Int} {i : Nat} (h : pcn (flS Nr n al k i).toNat < pcn (sbC al i).toNat ∧ ftP Nr k (sbC al i) n) : flS Nr n al k (i + 1) = sbC al i := @if_pos _ (Classical.propDecidable _) h _ _ _
theorem flS_f {Nr : Int → Int} {n : Nat} {al k : Int} {i : Nat} (h : ¬ (pcn (flS Nr n al k i).toNat < pcn (sbC al i).toNat ∧ ftP Nr k (sbC al i) n)) : flS Nr n al k (i + 1) = flS Nr n al k i := @if_neg _ (Classical.propDecidable _) h _ _ _
theorem flS_b {Nr : Int → Int} {n : Nat} {al k : Int} (ha : 0 ≤ al ∧ al < 4096) : ∀ i : Nat, 0 ≤ flS Nr n al k i ∧ flS Nr n al k i < 4096 := by
  intro i
  induction i with
  | zero => exact (show (0 : Int) ≤ 0 ∧ (0 : Int) < 4096 by decide)
  | succ i ih =>
    by_cases q : pcn (flS Nr n al k i).toNat < pcn (sbC al i).toNat ∧ ftP Nr k (sbC al i) n
    · rw [flS_t q]; exact sbC_b ha i
    · rw [flS_f q]; exact ih
theorem owC_b {M : Me} {n : Nat} {p : Int} (hn : n ≤ 12) : 0 ≤ owC M n p ∧ owC M n p < 4096 := and32_12 (bset4 n hn)
theorem nrC_b {M : Me} {n : Nat} {p w i : Int} (hn : n ≤ 12) : 0 ≤ nrC M n p w i ∧ nrC M n p w i < 4096 := and32_12 (bset4 n hn)
theorem wiC_c {M N : Me} (h : ∀ c : Int, N 210 c = M 210 c) {f w : Int} : ∀ n : Nat, wiC N n f w = wiC M n f w := by
  intro n
  unfold wiC
  induction n with
  | zero => rfl
  | succ n ih =>
    by_cases q : f ≤ M 210 n ∧ M 210 n < f + w
    · rw [bset_t (p := fun c : Int => f ≤ M 210 c ∧ M 210 c < f + w) (f := fun c => c) q, bset_t (p := fun c : Int => f ≤ N 210 c ∧ N 210 c < f + w) (f := fun c => c) (by rw [h]; exact q), ih]
    · rw [bset_f (p := fun c : Int => f ≤ M 210 c ∧ M 210 c < f + w) (f := fun c => c) q, bset_f (p := fun c : Int => f ≤ N 210 c ∧ N 210 c < f + w) (f := fun c => c) (by rw [h]; exact q), ih]
theorem l_flatC1 {x y z : Int} {M : Me} {n : Nat} (hn : M 50 3 = (n : Int)) (hn12 : n ≤ 12) (h : CI M) {p k w : Int} (hw : 1 ≤ w ∧ w ≤ 100) {Q : Option AV → Sh → Me → Prop} (hQ : V kX5_flattest 0 0 2 none Q 57 [(1, 12), (1, 49), (0, p), (0, k), (0, w), (0, owC M n p), (9, 0), (9, 0), (9, 0)] [] (Sf x y z) (row1 M 13 12 (fun j => if j < (n : Int) then nrC M n p w j else M 13 j)) 0 0) : ∀ (m i : Nat), m + i = n → V kX5_flattest 0 0 2 none Q 15 [(1, 12), (1, 49), (0, p), (0, k), (0, w), (0, owC M n p), (0, (i : Int)), (9, 0), (9, 0)] [] (Sf x y z) (row1 M 13 12 (fun j => if j < (i : Int) then nrC M n p w j else M 13 j)) 0 0 := by
  intro m
  induction m with
  | zero =>
    intro i hi
    obtain rfl : i = n := by omega
    refine r_iload dX5_flattest_15 rfl ?_
    refine r_aload_n dX5_flattest_17 rfl (by decide) ?_
    refine r_getr (x := 50) dX5_flattest_18 flX5_18 sf49 (by decide) (by decide) rfl rfl ?_
    refine r_gi 3 dX5_flattest_21 flX5_83 sf50 (by decide) (by decide) rfl rfl ((row1_o (by omega)).trans hn) ?_
    refine r_icmp_ge (tgt := 57) dX5_flattest_24 (by decide) (fun h24 => ?_) (fun h24 => by exfalso; omega)
    exact wk6 hQ
  | succ m ih =>
    intro i hi
    have hy := (h.2.1 i (by omega) (by omega)).2.2.2.2.1
    refine r_iload dX5_flattest_15 rfl ?_
    refine r_aload_n dX5_flattest_17 rfl (by decide) ?_
    refine r_getr (x := 50) dX5_flattest_18 flX5_18 sf49 (by decide) (by decide) rfl rfl ?_
    refine r_gi 3 dX5_flattest_21 flX5_83 sf50 (by decide) (by decide) rfl rfl ((row1_o (by omega)).trans hn) ?_
    refine r_icmp_ge (tgt := 57) dX5_flattest_24 (by decide) (fun h24 => by exfalso; omega) (fun h24 => ?_)
    refine r_aload_n dX5_flattest_27 rfl (by decide) ?_
    refine r_getr (x := 13) dX5_flattest_28 flX5_9 sf12 (by decide) (by decide) rfl rfl ?_
    refine r_iload dX5_flattest_31 rfl ?_
    refine r_iload dX5_flattest_33 rfl ?_
    refine r_aload_n dX5_flattest_35 rfl (by decide) ?_
    refine r_aload_n dX5_flattest_36 rfl (by decide) ?_
    refine r_aload_n dX5_flattest_37 rfl (by decide) ?_
    refine r_getr (x := 210) dX5_flattest_38 flX5_92 sf49 (by decide) (by decide) rfl rfl ?_
    refine r_iload dX5_flattest_41 rfl ?_
    refine r_iald dX5_flattest_43 sf210 (by decide) (by omega) (by omega) (by decide) (row1_o (by omega)) ?_
    refine r_iload dX5_flattest_44 rfl ?_
    refine r_cv3 dX5_flattest_46 clX5_95 sf12 (by decide) (by decide) rfl (by first | decide | omega) (Nat.le_of_ble_eq_true rfl) ((c_within (by omega) ((row1_o (by omega)).trans hn) hn12)) ⟨Nat.zero_le _, Nat.zero_le _⟩ (fun _ => ?_)
    rw [wiC_c (M := M) (fun c => row1_o (by omega))]
    refine r_iand dX5_flattest_49 rfl ?_
    refine r_iast dX5_flattest_50 sf13 (by decide) (by omega) (by omega) (by decide) rfl ?_
    refine V.cm rfl (row1_up (X' := fun j => if j < ((i + 1 : Nat) : Int) then nrC M n p w j else M 13 j) (by omega) (fun j h0 h1 => by by_cases e : j = (i : Int); (rw [if_pos e, if_pos (by omega), e]; rfl); (rw [if_neg e]; by_cases e2 : j < (i : Int); (rw [if_pos e2, if_pos (by omega)]); (rw [if_neg e2, if_neg (by omega)])))) ?_
    refine r_iinc dX5_flattest_51 rfl rfl (by decide) (w32_id (by omega)) st6 ?_
    refine r_goto (tgt := 15) dX5_flattest_54 (by decide) ?_
    exact ih (i + 1) (by omega)
theorem l_flatC2 {x y z : Int} {M : Me} {n : Nat} (hn : M 50 3 = (n : Int)) (hn12 : n ≤ 12) (h : CI M) {p k w : Int} (hw : 1 ≤ w ∧ w ≤ 100) {N : Nat} (hN : N = 2 ^ pcn (owC M n p).toNat) : ∀ (m i : Nat), m + i = N → V kX5_flattest 0 0 2 none (Ex (some (0, (flS (fun c => (row1 M 13 12 (fun j => if j < (n : Int) then nrC M n p w j else M 13 j)) 13 c) n (owC M n p) k N))) (Sf x y z) (row1 M 13 12 (fun j => if j < (n : Int) then nrC M n p w j else M 13 j))) 66 [(1, 12), (1, 49), (0, p), (0, k), (0, w), (0, owC M n p), (0, (flS (fun c => (row1 M 13 12 (fun j => if j < (n : Int) then nrC M n p w j else M 13 j)) 13 c) n (owC M n p) k i)), (0, sbC (owC M n p) i), (0, (i : Int))] [] (Sf x y z) (row1 M 13 12 (fun j => if j < (n : Int) then nrC M n p w j else M 13 j)) 0 0 := by
  have htb := owC_b (M := M) (n := n) (p := p) hn12
  have hp := pcn_le (owC M n p).toNat (by omega)
  have h2 := shl1_p _ hp
  rw [← hN] at h2
  intro m
  induction m with
  | zero =>
    intro i hi
    obtain rfl : i = N := by omega
    refine r_iload dX5_flattest_66 rfl ?_
    refine r_iconst dX5_flattest_68 (by decide) ?_
    refine r_iload dX5_flattest_69 rfl ?_
    refine r_cs1 dX5_flattest_71 clX5_55 (by first | decide | omega) (Nat.le_of_ble_eq_true rfl) ((c_bitCount htb)) ⟨Nat.zero_le _, Nat.zero_le _⟩ (fun _ => ?_)
    refine r_ishl dX5_flattest_74 h2.1 ?_
    refine r_icmp_ge (tgt := 122) dX5_flattest_75 (by decide) (fun h75 => ?_) (fun h75 => by exfalso; omega)
    refine r_iload dX5_flattest_122 rfl ?_
    refine r_iret dX5_flattest_124 rfl ?_
    exact ⟨rfl, rfl, rfl⟩
  | succ m ih =>
    intro i hi
    have hs := sbC_b htb i
    have hfb := flS_b (Nr := fun c => (row1 M 13 12 (fun j => if j < (n : Int) then nrC M n p w j else M 13 j)) 13 c) (n := n) (k := k) htb i
    have hr : ∀ c : Int, 0 ≤ c → c < n → 0 ≤ (row1 M 13 12 (fun j => if j < (n : Int) then nrC M n p w j else M 13 j)) 13 c ∧ (row1 M 13 12 (fun j => if j < (n : Int) then nrC M n p w j else M 13 j)) 13 c < 4096 := fun c h0 h1 => by
      rw [show (row1 M 13 12 (fun j => if j < (n : Int) then nrC M n p w j else M 13 j)) 13 c = nrC M n p w c from rd_rX (by omega) (if_pos h1)]
      exact nrC_b hn12
    refine r_iload dX5_flattest_66 rfl ?_
    refine r_iconst dX5_flattest_68 (by decide) ?_
    refine r_iload dX5_flattest_69 rfl ?_
    refine r_cs1 dX5_flattest_71 clX5_55 (by first | decide | omega) (Nat.le_of_ble_eq_true rfl) ((c_bitCount htb)) ⟨Nat.zero_le _, Nat.zero_le _⟩ (fun _ => ?_)
    refine r_ishl dX5_flattest_74 h2.1 ?_
    refine r_icmp_ge (tgt := 122) dX5_flattest_75 (by decide) (fun h75 => by exfalso; omega) (fun h75 => ?_)
    refine r_iload dX5_flattest_78 rfl ?_
    refine r_cs1 dX5_flattest_80 clX5_55 (by first | decide | omega) (Nat.le_of_ble_eq_true rfl) ((c_bitCount hs)) ⟨Nat.zero_le _, Nat.zero_le _⟩ (fun _ => ?_)
    refine r_iload dX5_flattest_83 rfl ?_
    refine r_cs1 dX5_flattest_85 clX5_55 (by first | decide | omega) (Nat.le_of_ble_eq_true rfl) ((c_bitCount hfb)) ⟨Nat.zero_le _, Nat.zero_le _⟩ (fun _ => ?_)
    refine r_icmp_le (tgt := 106) dX5_flattest_88 (by decide) (fun h88 => ?_) (fun h88 => ?_)
    · refine r_iload dX5_flattest_106 rfl ?_
      refine r_iload dX5_flattest_108 rfl ?_
      refine r_isub dX5_flattest_110 rfl ?_
      refine r_iload dX5_flattest_111 rfl ?_
      refine r_iand dX5_flattest_113 rfl ?_
      refine r_istore dX5_flattest_114 rfl (by decide) st7 ?_
      refine r_iinc dX5_flattest_116 rfl rfl (by decide) (w32_id (by omega)) st8 ?_
      refine r_goto (tgt := 66) dX5_flattest_119 (by decide) ?_
      have ih9 := ih (i + 1) (by omega)
      rw [show sbC (owC M n p) (i + 1) = and32 (w32 (sbC (owC M n p) i - owC M n p)) (owC M n p) from rfl] at ih9
      first | (rw [flS_t ⟨by omega, bic_1 (by assumption)⟩] at ih9; exact ih9) | (rw [flS_f (fun q => by first | omega | exact absurd q.2 (bic_0 (by assumption)))] at ih9; exact ih9)
    · refine r_aload_n dX5_flattest_91 rfl (by decide) ?_
      refine r_aload_n dX5_flattest_92 rfl (by decide) ?_
      refine r_iload dX5_flattest_93 rfl ?_
      refine r_iload_n dX5_flattest_95 rfl ?_
      refine r_cv3 dX5_flattest_96 clX5_99 sf12 (by decide) (by decide) rfl (by first | decide | omega) (Nat.le_of_ble_eq_true rfl) ((c_isFlatC ((row1_o (by omega)).trans hn) hn12 hr)) ⟨Nat.zero_le _, Nat.zero_le _⟩ (fun _ => ?_)
      refine r_if_eq (tgt := 106) dX5_flattest_99 (by decide) (fun h99 => ?_) (fun h99 => ?_)
      · refine r_iload dX5_flattest_106 rfl ?_
        refine r_iload dX5_flattest_108 rfl ?_
        refine r_isub dX5_flattest_110 rfl ?_
        refine r_iload dX5_flattest_111 rfl ?_
        refine r_iand dX5_flattest_113 rfl ?_
        refine r_istore dX5_flattest_114 rfl (by decide) st7 ?_
        refine r_iinc dX5_flattest_116 rfl rfl (by decide) (w32_id (by omega)) st8 ?_
        refine r_goto (tgt := 66) dX5_flattest_119 (by decide) ?_
        have ih9 := ih (i + 1) (by omega)
        rw [show sbC (owC M n p) (i + 1) = and32 (w32 (sbC (owC M n p) i - owC M n p)) (owC M n p) from rfl] at ih9
        first | (rw [flS_t ⟨by omega, bic_1 (by assumption)⟩] at ih9; exact ih9) | (rw [flS_f (fun q => by first | omega | exact absurd q.2 (bic_0 (by assumption)))] at ih9; exact ih9)
      · refine r_iload dX5_flattest_102 rfl ?_
        refine r_istore dX5_flattest_104 rfl (by decide) st6 ?_
        refine r_iload dX5_flattest_106 rfl ?_
        refine r_iload dX5_flattest_108 rfl ?_
        refine r_isub dX5_flattest_110 rfl ?_
        refine r_iload dX5_flattest_111 rfl ?_
        refine r_iand dX5_flattest_113 rfl ?_
        refine r_istore dX5_flattest_114 rfl (by decide) st7 ?_
        refine r_iinc dX5_flattest_116 rfl rfl (by decide) (w32_id (by omega)) st8 ?_
        refine r_goto (tgt := 66) dX5_flattest_119 (by decide) ?_
        have ih9 := ih (i + 1) (by omega)
        rw [show sbC (owC M n p) (i + 1) = and32 (w32 (sbC (owC M n p) i - owC M n p)) (owC M n p) from rfl] at ih9
        first | (rw [flS_t ⟨by omega, bic_1 (by assumption)⟩] at ih9; exact ih9) | (rw [flS_f (fun q => by first | omega | exact absurd q.2 (bic_0 (by assumption)))] at ih9; exact ih9)
theorem c_flattest {x y z : Int} {M : Me} {n : Nat} (hn : M 50 3 = (n : Int)) (hn12 : n ≤ 12) (h : CI M) {p k w : Int} (hw : 1 ≤ w ∧ w ≤ 100) : Con kX5_flattest 2 0 0 [(1, 12), (1, 49), (0, p), (0, k), (0, w)] (Sf x y z) M (Ex (some (0, (flS (fun c => (row1 M 13 12 (fun j => if j < (n : Int) then nrC M n p w j else M 13 j)) 13 c) n (owC M n p) k (2 ^ pcn (owC M n p).toNat)))) (Sf x y z) (row1 M 13 12 (fun j => if j < (n : Int) then nrC M n p w j else M 13 j))) := by
  refine Con.ofV (al := [(1, 12), (1, 49), (0, p), (0, k), (0, w), (9, 0), (9, 0), (9, 0), (9, 0)]) 4 (by decide) (Nat.le_of_ble_eq_true rfl) rfl ?_
  refine r_aload_n dX5_flattest_0 rfl (by decide) ?_
  refine r_iload_n dX5_flattest_1 rfl ?_
  refine r_cv1 dX5_flattest_2 clX5_89 sf49 (by decide) (by decide) rfl (by first | decide | omega) (Nat.le_of_ble_eq_true rfl) ((s_creasesOf hn hn12)) ⟨Nat.zero_le _, Nat.zero_le _⟩ (fun _ => ?_)
  refine r_aload_n dX5_flattest_5 rfl (by decide) ?_
  refine r_cv0 dX5_flattest_6 clX5_46 sf49 (by decide) (by decide) rfl (by first | decide | omega) (Nat.le_of_ble_eq_true rfl) ((s_allThere hn hn12)) ⟨Nat.zero_le _, Nat.zero_le _⟩ (fun _ => ?_)
  refine r_iand dX5_flattest_9 rfl ?_
  refine r_istore dX5_flattest_10 rfl (by decide) st5 ?_
  refine r_iconst dX5_flattest_12 (by decide) ?_
  refine r_istore dX5_flattest_13 rfl (by decide) st6 ?_
  refine V.cm rfl (row1_id.trans (row1_c (fun j h0 h1 => (if_neg (by omega)).symm))) (l_flatC1 hn hn12 h hw ?_ n 0 (by omega))
  refine r_iconst dX5_flattest_57 (by decide) ?_
  refine r_istore dX5_flattest_58 rfl (by decide) st6 ?_
  refine r_iconst dX5_flattest_60 (by decide) ?_
  refine r_istore dX5_flattest_61 rfl (by decide) st7 ?_
  refine r_iconst dX5_flattest_63 (by decide) ?_
  refine r_istore dX5_flattest_64 rfl (by decide) st8 ?_
  exact l_flatC2 hn hn12 h hw rfl _ 0 (Nat.add_zero _)
