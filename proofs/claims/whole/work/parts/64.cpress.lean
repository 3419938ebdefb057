theorem CI.u52 {M : Me} (h : CI M) {j v : Int} (hv : 0 ≤ v ∧ v ≤ 2) : CI (up M 52 j v) := by
  unfold CI
  rw [up_ne (a := 52) (a' := 50) (by omega), up_ne (a := 52) (a' := 50) (by omega), up_ne (a := 52) (a' := 50) (by omega), up_ne (a := 52) (a' := 50) (by omega), up_ne (a := 52) (a' := 50) (by omega), up_ne (a := 52) (a' := 49) (by omega), up_ne (a := 52) (a' := 49) (by omega), up_ne (a := 52) (a' := 55) (by omega), up_ne (a := 52) (a' := 55) (by omega)]
  refine ⟨h.1, fun c h0 h1 => ?_, fun p h0 h1 => ?_, fun t h0 h1 => ?_⟩
  · have := h.2.1 c h0 h1
    unfold up
    refine ⟨?_, ?_, ?_, ?_, ?_, ?_, ?_, ?_⟩ <;> split <;> omega
  · have := h.2.2.1 p h0 h1
    unfold up
    refine ⟨?_, ?_, ?_⟩ <;> split <;> omega
  · rw [up_ne (by omega), up_ne (by omega)]
    exact h.2.2.2 t h0 h1
theorem CI.u53 {M : Me} (h : CI M) {j v : Int} (hv : 0 ≤ v ∧ v ≤ 9) : CI (up M 53 j v) := by
  unfold CI
  rw [up_ne (a := 53) (a' := 50) (by omega), up_ne (a := 53) (a' := 50) (by omega), up_ne (a := 53) (a' := 50) (by omega), up_ne (a := 53) (a' := 50) (by omega), up_ne (a := 53) (a' := 50) (by omega), up_ne (a := 53) (a' := 49) (by omega), up_ne (a := 53) (a' := 49) (by omega), up_ne (a := 53) (a' := 55) (by omega), up_ne (a := 53) (a' := 55) (by omega)]
  refine ⟨h.1, fun c h0 h1 => ?_, fun p h0 h1 => ?_, fun t h0 h1 => ?_⟩
  · have := h.2.1 c h0 h1
    unfold up
    refine ⟨?_, ?_, ?_, ?_, ?_, ?_, ?_, ?_⟩ <;> split <;> omega
  · have := h.2.2.1 p h0 h1
    unfold up
    refine ⟨?_, ?_, ?_⟩ <;> split <;> omega
  · rw [up_ne (by omega), up_ne (by omega)]
    exact h.2.2.2 t h0 h1
theorem CI.u51 {M : Me} (h : CI M) {j v : Int} (hv : 0 ≤ v ∧ v ≤ 9999) : CI (up M 51 j v) := by
  unfold CI
  rw [up_ne (a := 51) (a' := 50) (by omega), up_ne (a := 51) (a' := 50) (by omega), up_ne (a := 51) (a' := 50) (by omega), up_ne (a := 51) (a' := 50) (by omega), up_ne (a := 51) (a' := 50) (by omega), up_ne (a := 51) (a' := 49) (by omega), up_ne (a := 51) (a' := 49) (by omega), up_ne (a := 51) (a' := 55) (by omega), up_ne (a := 51) (a' := 55) (by omega)]
  refine ⟨h.1, fun c h0 h1 => ?_, fun p h0 h1 => ?_, fun t h0 h1 => ?_⟩
  · have := h.2.1 c h0 h1
    unfold up
    refine ⟨?_, ?_, ?_, ?_, ?_, ?_, ?_, ?_⟩ <;> split <;> omega
  · have := h.2.2.1 p h0 h1
    unfold up
    refine ⟨?_, ?_, ?_⟩ <;> split <;> omega
  · rw [up_ne (by omega), up_ne (by omega)]
    exact h.2.2.2 t h0 h1
/-- what CI does not speak of may change, and the numbers of the moment and the steps within their bounds -/
theorem CI.g {M N : Me} (h : CI M) (h0 : 0 ≤ N 50 0 ∧ N 50 0 ≤ 9999) (h1 : 0 ≤ N 50 1 ∧ N 50 1 < 40000) (h4 : 0 ≤ N 50 4 ∧ N 50 4 ≤ 30) (h5 : 0 ≤ N 55 0 ∧ N 55 0 ≤ 30) (h6 : 0 ≤ N 55 1 ∧ N 55 1 < 30) (e : ∀ a j : Int, (a = 50 ∧ (j = 2 ∨ j = 3)) ∨ a = 49 ∨ (51 ≤ a ∧ a ≤ 53) ∨ (207 ≤ a ∧ a ≤ 214) ∨ (15 ≤ a ∧ a ≤ 46) → N a j = M a j) : CI N := by
  unfold CI
  rw [e 50 2 (by omega), e 50 3 (by omega), e 49 0 (by omega), e 49 1 (by omega)]
  refine ⟨⟨h0, h1, h.p, h.c, h4, h.e, h.t, h5, h6⟩, fun c g0 g1 => ?_, fun p g0 g1 => ?_, fun t g0 g1 => ?_⟩
  · rw [e 209 c (by omega), e 214 c (by omega), e 53 c (by omega), e 52 c (by omega), e 210 c (by omega), e 211 c (by omega), e 212 c (by omega), e 213 c (by omega)]
    exact h.2.1 c g0 g1
  · rw [e 51 p (by omega), e 207 p (by omega), e 208 p (by omega)]
    exact h.2.2.1 p g0 g1
  · rw [e (15 + 8 * t) 1 (by omega), e (15 + 8 * t) 0 (by omega)]
    exact h.2.2.2 t g0 g1
theorem wrC_o {M : Me} {c w a j : Int} (h : ¬ (a = 54 ∨ (a = 50 ∧ j = 4))) : wrC M c w a j = M a j := by
  unfold wrC
  split
  · rw [up_ne (by omega), up_ne (by omega)]
  · rw [up_ne (by omega), up_ne (by omega), up_ne (by omega), cpy_out (by omega)]
theorem wrC_4 {M : Me} {c w : Int} (h : 0 ≤ M 50 4 ∧ M 50 4 ≤ 30) : 0 ≤ wrC M c w 50 4 ∧ wrC M c w 50 4 ≤ 30 := by
  unfold wrC
  split
  · rw [up_eq ⟨rfl, rfl⟩]; omega
  · rw [up_eq ⟨rfl, rfl⟩]; omega
theorem CI.wr {M : Me} (h : CI M) {c w : Int} : CI (wrC M c w) := h.g (by rw [wrC_o (by omega)]; exact h.h) (by rw [wrC_o (by omega)]; exact h.x) (wrC_4 h.b) (by rw [wrC_o (by omega)]; exact h.s) (by rw [wrC_o (by omega)]; exact h.f) (fun a j q => wrC_o (by omega))
theorem CI.dr {M : Me} (h : CI M) : CI (drC M) := by
  have := h.x
  unfold drC
  exact h.g (by rw [up_ne (by omega)]; exact h.h) (by rw [up_eq ⟨rfl, rfl⟩]; omega) (by rw [up_ne (by omega)]; exact h.b) (by rw [up_ne (by omega)]; exact h.s) (by rw [up_ne (by omega)]; exact h.f) (fun a j q => up_ne (by omega))
theorem keC_o {M : Me} {a j : Int} (h : ¬ (a = 55 ∨ (57 ≤ a ∧ a ≤ 206))) : keC M a j = M a j := by
  have := kp_sb (M := kaC M) (i := kaC M 55 0 - 1)
  unfold keC
  rw [mcp_o (by omega), kaC_o (by omega)]
theorem keC_5 {M : Me} (h0 : 0 ≤ M 55 0 ∧ M 55 0 ≤ 30) (h1 : 0 ≤ M 55 1 ∧ M 55 1 < 30) : (0 ≤ keC M 55 0 ∧ keC M 55 0 ≤ 30) ∧ (0 ≤ keC M 55 1 ∧ keC M 55 1 < 30) := by
  have := kp_sb (M := kaC M) (i := kaC M 55 0 - 1)
  have := kaC_b h0 h1
  unfold keC
  rw [mcp_o (by omega), mcp_o (by omega)]
  omega
theorem CI.ke {M : Me} (h : CI M) : CI (keC M) := h.g (by rw [keC_o (by omega)]; exact h.h) (by rw [keC_o (by omega)]; exact h.x) (by rw [keC_o (by omega)]; exact h.b) (keC_5 h.s h.f).1 (keC_5 h.s h.f).2 (fun a j q => keC_o (by omega))
theorem CI.bl {M : Me} (h : CI M) {l c t : Int} : CI (blM M l c t) := h.of (fun a j q => blM_o q)
/-- the ties of b go on to all that hang on it -/
def tiS (M : Me) (a b : Int) : Nat → Me
  | 0 => M
  | i + 1 => if and32 (shr32 (tiS M a b i 214 (i : Int)) b) 1 = 1 then up (tiS M a b i) 214 i (or32 (tiS M a b i 214 (i : Int)) (tiS M a b i 214 a)) else tiS M a b i
theorem tiS_t {M : Me} {a b : Int} {i : Nat} (h : and32 (shr32 (tiS M a b i 214 (i : Int)) b) 1 = 1) : tiS M a b (i + 1) = up (tiS M a b i) 214 i (or32 (tiS M a b i 214 (i : Int)) (tiS M a b i 214 a)) := if_pos h
theorem tiS_f {M : Me} {a b : Int} {i : Nat} (h : ¬ and32 (shr32 (tiS M a b i 214 (i : Int)) b) 1 = 1) : tiS M a b (i + 1) = tiS M a b i := if_neg h
theorem tiS_o {M : Me} {a b a' j : Int} (h : a' ≠ 214) : ∀ i : Nat, tiS M a b i a' j = M a' j := by
  intro i
  induction i with
  | zero => rfl
  | succ i ih =>
    unfold tiS
    split
    · rw [up_ne (by omega)]; exact ih
    · exact ih
abbrev ttP (M : Me) (a b : Int) : Prop := (0 ≤ a ∧ a < M 50 3) ∧ (0 ≤ b ∧ b < M 50 3) ∧ a ≠ b ∧ ¬ and32 (shr32 (M 213 a) b) 1 = 1
def ttM (M : Me) (n : Nat) (a b : Int) : Me := if ttP M a b then tiS (up M 213 a (or32 (M 213 a) (shl32 1 b))) a b n else M
def ttV (M : Me) (a b : Int) : Int := if ttP M a b then 1 else 0
theorem l_tellTie {x y z : Int} {M : Me} {a b : Int} {n : Nat} (hn : M 50 3 = (n : Int)) (hn12 : n ≤ 12) (ha : 0 ≤ a ∧ a < 12) : ∀ (m i : Nat), m + i = n → V kX6_tellTie 0 0 1 none (Ex (some (0, 1)) (Sf x y z) (tiS M a b n)) 51 [(1, 49), (0, a), (0, b), (0, (i : Int))] [] (Sf x y z) (tiS M a b i) 0 0 := by
  intro m
  induction m with
  | zero =>
    intro i hi
    obtain rfl : i = n := by omega
    refine r_iload_n dX6_tellTie_51 rfl ?_
    refine r_aload_n dX6_tellTie_52 rfl (by decide) ?_
    refine r_getr (x := 50) dX6_tellTie_53 flX6_21 sf49 (by decide) (by decide) rfl rfl ?_
    refine r_gi 3 dX6_tellTie_56 flX6_111 sf50 (by decide) (by decide) rfl rfl ((tiS_o (by decide) i).trans hn) ?_
    refine r_icmp_ge (tgt := 97) dX6_tellTie_59 (by decide) (fun h59 => ?_) (fun h59 => by exfalso; omega)
    refine r_iconst dX6_tellTie_97 (by decide) ?_
    refine r_zret dX6_tellTie_98 rfl (by omega) ?_
    exact ⟨rfl, rfl, rfl⟩
  | succ m ih =>
    intro i hi
    refine r_iload_n dX6_tellTie_51 rfl ?_
    refine r_aload_n dX6_tellTie_52 rfl (by decide) ?_
    refine r_getr (x := 50) dX6_tellTie_53 flX6_21 sf49 (by decide) (by decide) rfl rfl ?_
    refine r_gi 3 dX6_tellTie_56 flX6_111 sf50 (by decide) (by decide) rfl rfl ((tiS_o (by decide) i).trans hn) ?_
    refine r_icmp_ge (tgt := 97) dX6_tellTie_59 (by decide) (fun h59 => by exfalso; omega) (fun h59 => ?_)
    refine r_aload_n dX6_tellTie_62 rfl (by decide) ?_
    refine r_getr (x := 214) dX6_tellTie_63 flX6_54 sf49 (by decide) (by decide) rfl rfl ?_
    refine r_iload_n dX6_tellTie_66 rfl ?_
    refine r_iald dX6_tellTie_67 sf214 (by decide) (by omega) (by omega) (by decide) rfl ?_
    refine r_iload_n dX6_tellTie_68 rfl ?_
    refine r_ishr dX6_tellTie_69 rfl ?_
    refine r_iconst dX6_tellTie_70 (by decide) ?_
    refine r_iand dX6_tellTie_71 rfl ?_
    refine r_iconst dX6_tellTie_72 (by decide) ?_
    refine r_icmp_ne (tgt := 91) dX6_tellTie_73 (by decide) (fun h73 => ?_) (fun h73 => ?_)
    · refine V.cm rfl (tiS_f (by assumption)).symm ?_
      refine r_iinc dX6_tellTie_91 rfl rfl (by decide) (w32_id (by omega)) st3 ?_
      refine r_goto (tgt := 51) dX6_tellTie_94 (by decide) ?_
      exact ih (i + 1) (by omega)
    · refine r_aload_n dX6_tellTie_76 rfl (by decide) ?_
      refine r_getr (x := 214) dX6_tellTie_77 flX6_54 sf49 (by decide) (by decide) rfl rfl ?_
      refine r_iload_n dX6_tellTie_80 rfl ?_
      refine r_dup2 dX6_tellTie_81 (Nat.ne_of_beq_eq_false rfl) (Nat.ne_of_beq_eq_false rfl) ?_
      refine r_iald dX6_tellTie_82 sf214 (by decide) (by omega) (by omega) (by decide) rfl ?_
      refine r_aload_n dX6_tellTie_83 rfl (by decide) ?_
      refine r_getr (x := 214) dX6_tellTie_84 flX6_54 sf49 (by decide) (by decide) rfl rfl ?_
      refine r_iload_n dX6_tellTie_87 rfl ?_
      refine r_iald dX6_tellTie_88 sf214 (by decide) (by omega) (by omega) (by decide) rfl ?_
      refine r_ior dX6_tellTie_89 rfl ?_
      refine r_iast dX6_tellTie_90 sf214 (by decide) (by omega) (by omega) (by decide) rfl ?_
      refine V.cm rfl (tiS_t (by assumption)).symm ?_
      refine r_iinc dX6_tellTie_91 rfl rfl (by decide) (w32_id (by omega)) st3 ?_
      refine r_goto (tgt := 51) dX6_tellTie_94 (by decide) ?_
      exact ih (i + 1) (by omega)
theorem c_tellTie {x y z : Int} {M : Me} {a b : Int} {n : Nat} (hn : M 50 3 = (n : Int)) (hn12 : n ≤ 12) : Con kX6_tellTie 1 0 0 [(1, 49), (0, a), (0, b)] (Sf x y z) M (Ex (some (0, ttV M a b)) (Sf x y z) (ttM M n a b)) := by
  refine Con.ofV (al := [(1, 49), (0, a), (0, b), (9, 0)]) 1 (by decide) (Nat.le_of_ble_eq_true rfl) rfl ?_
  refine r_aload_n dX6_tellTie_0 rfl (by decide) ?_
  refine r_iload_n dX6_tellTie_1 rfl ?_
  refine r_cv1 dX6_tellTie_2 clX6_114 sf49 (by decide) (by decide) rfl (by first | decide | omega) (Nat.le_of_ble_eq_true rfl) (s_isCrease) ⟨Nat.zero_le _, Nat.zero_le _⟩ (fun _ => ?_)
  refine r_if_eq (tgt := 35) dX6_tellTie_5 (by decide) (fun h5 => ?_) (fun h5 => ?_)
  · try have h5 := bi_0.mp h5
    refine r_iconst dX6_tellTie_35 (by decide) ?_
    refine r_zret dX6_tellTie_36 rfl (by omega) ?_
    exact ⟨by rw [show ttV M a b = 0 from if_neg (by omega)], rfl, by rw [show ttM M n a b = M from if_neg (by omega)]⟩
  · try have h5 := bi_1.mp h5
    refine r_aload_n dX6_tellTie_8 rfl (by decide) ?_
    refine r_iload_n dX6_tellTie_9 rfl ?_
    refine r_cv1 dX6_tellTie_10 clX6_114 sf49 (by decide) (by decide) rfl (by first | decide | omega) (Nat.le_of_ble_eq_true rfl) (s_isCrease) ⟨Nat.zero_le _, Nat.zero_le _⟩ (fun _ => ?_)
    refine r_if_eq (tgt := 35) dX6_tellTie_13 (by decide) (fun h13 => ?_) (fun h13 => ?_)
    · try have h13 := bi_0.mp h13
      refine r_iconst dX6_tellTie_35 (by decide) ?_
      refine r_zret dX6_tellTie_36 rfl (by omega) ?_
      exact ⟨by rw [show ttV M a b = 0 from if_neg (by omega)], rfl, by rw [show ttM M n a b = M from if_neg (by omega)]⟩
    · try have h13 := bi_1.mp h13
      refine r_iload_n dX6_tellTie_16 rfl ?_
      refine r_iload_n dX6_tellTie_17 rfl ?_
      refine r_icmp_eq (tgt := 35) dX6_tellTie_18 (by decide) (fun h18 => ?_) (fun h18 => ?_)
      · refine r_iconst dX6_tellTie_35 (by decide) ?_
        refine r_zret dX6_tellTie_36 rfl (by omega) ?_
        exact ⟨by rw [show ttV M a b = 0 from if_neg (by omega)], rfl, by rw [show ttM M n a b = M from if_neg (by omega)]⟩
      · refine r_aload_n dX6_tellTie_21 rfl (by decide) ?_
        refine r_getr (x := 213) dX6_tellTie_22 flX6_51 sf49 (by decide) (by decide) rfl rfl ?_
        refine r_iload_n dX6_tellTie_25 rfl ?_
        refine r_iald dX6_tellTie_26 sf213 (by decide) (by omega) (by omega) (by decide) rfl ?_
        refine r_iload_n dX6_tellTie_27 rfl ?_
        refine r_ishr dX6_tellTie_28 rfl ?_
        refine r_iconst dX6_tellTie_29 (by decide) ?_
        refine r_iand dX6_tellTie_30 rfl ?_
        refine r_iconst dX6_tellTie_31 (by decide) ?_
        refine r_icmp_ne (tgt := 37) dX6_tellTie_32 (by decide) (fun h32 => ?_) (fun h32 => ?_)
        · refine r_aload_n dX6_tellTie_37 rfl (by decide) ?_
          refine r_getr (x := 213) dX6_tellTie_38 flX6_51 sf49 (by decide) (by decide) rfl rfl ?_
          refine r_iload_n dX6_tellTie_41 rfl ?_
          refine r_dup2 dX6_tellTie_42 (Nat.ne_of_beq_eq_false rfl) (Nat.ne_of_beq_eq_false rfl) ?_
          refine r_iald dX6_tellTie_43 sf213 (by decide) (by omega) (by omega) (by decide) rfl ?_
          refine r_iconst dX6_tellTie_44 (by decide) ?_
          refine r_iload_n dX6_tellTie_45 rfl ?_
          refine r_ishl dX6_tellTie_46 rfl ?_
          refine r_ior dX6_tellTie_47 rfl ?_
          refine r_iast dX6_tellTie_48 sf213 (by decide) (by omega) (by omega) (by decide) rfl ?_
          refine r_iconst dX6_tellTie_49 (by decide) ?_
          refine r_istore_n dX6_tellTie_50 rfl (by decide) st3 ?_
          rw [show ttV M a b = 1 from if_pos (by first | omega | (refine ⟨by omega, by omega, by omega, by assumption⟩)), show ttM M n a b = _ from if_pos (by first | omega | (refine ⟨by omega, by omega, by omega, by assumption⟩))]
          exact l_tellTie (M := up M 213 a (or32 (M 213 a) (shl32 1 b))) ((up_ne (by omega)).trans hn) hn12 (by omega) n 0 (by omega)
        · refine r_iconst dX6_tellTie_35 (by decide) ?_
          refine r_zret dX6_tellTie_36 rfl (by omega) ?_
          exact ⟨by rw [show ttV M a b = 0 from if_neg (by omega)], rfl, by rw [show ttM M n a b = M from if_neg (by omega)]⟩
def go1 (M : Me) (c : Int) : Me := wrC (up (up M 52 c 1) 53 c 0) c 0
def cbC (M : Me) (c d : Int) : Me := wrC (up (up M 52 c 0) 53 c d) c 2
theorem CI.go {M : Me} (h : CI M) {c : Int} : CI (go1 M c) := ((h.u52 (by decide)).u53 (by decide)).wr
theorem CI.cb {M : Me} (h : CI M) {c d : Int} (hd : 0 ≤ d ∧ d ≤ 9) : CI (cbC M c d) := ((h.u52 (by decide)).u53 hd).wr
theorem go1_o {M : Me} {c a j : Int} (h : ¬ ((52 ≤ a ∧ a ≤ 54) ∨ (a = 50 ∧ j = 4))) : go1 M c a j = M a j := by
  unfold go1
  rw [wrC_o (by omega), up_ne (by omega), up_ne (by omega)]
theorem cbC_o {M : Me} {c d a j : Int} (h : ¬ ((52 ≤ a ∧ a ≤ 54) ∨ (a = 50 ∧ j = 4))) : cbC M c d a j = M a j := by
  unfold cbC
  rw [wrC_o (by omega), up_ne (by omega), up_ne (by omega)]
def goS (M : Me) (c : Int) : Nat → Me
  | 0 => M
  | i + 1 => if and32 (shr32 (M 214 c) i) 1 = 1 ∧ goS M c i 52 (i : Int) = 0 then go1 (goS M c i) i else goS M c i
theorem goS_t {M : Me} {c : Int} {i : Nat} (h : and32 (shr32 (M 214 c) i) 1 = 1 ∧ goS M c i 52 (i : Int) = 0) : goS M c (i + 1) = go1 (goS M c i) i := if_pos h
theorem goS_f {M : Me} {c : Int} {i : Nat} (h : ¬ (and32 (shr32 (M 214 c) i) 1 = 1 ∧ goS M c i 52 (i : Int) = 0)) : goS M c (i + 1) = goS M c i := if_neg h
theorem goS_o {M : Me} {c a j : Int} (h : ¬ ((52 ≤ a ∧ a ≤ 54) ∨ (a = 50 ∧ j = 4))) : ∀ i : Nat, goS M c i a j = M a j := by
  intro i
  induction i with
  | zero => rfl
  | succ i ih =>
    unfold goS
    split
    · rw [go1_o h]; exact ih
    · exact ih
theorem CI.gs {M : Me} (h : CI M) {c : Int} : ∀ i : Nat, CI (goS M c i) := by
  intro i
  induction i with
  | zero => exact h
  | succ i ih =>
    unfold goS
    split
    · exact ih.go
    · exact ih
theorem c_goOne {x y z : Int} {M : Me} {c : Int} (hc : 0 ≤ c ∧ c < 12) (h4 : 0 ≤ M 50 4 ∧ M 50 4 ≤ 30) : Con kX6_goOne 2 0 0 [(1, 49), (0, c)] (Sf x y z) M (Ex none (Sf x y z) (go1 M c)) := by
  refine Con.ofV (al := [(1, 49), (0, c)]) 0 (by decide) (Nat.le_of_ble_eq_true rfl) rfl ?_
  refine r_aload_n dX6_goOne_0 rfl (by decide) ?_
  refine r_getr (x := 50) dX6_goOne_1 flX6_21 sf49 (by decide) (by decide) rfl rfl ?_
  refine r_getr (x := 52) dX6_goOne_4 flX6_118 sf50 (by decide) (by decide) rfl rfl ?_
  refine r_iload_n dX6_goOne_7 rfl ?_
  refine r_iconst dX6_goOne_8 (by decide) ?_
  refine r_iast dX6_goOne_9 sf52 (by decide) (by omega) (by omega) (by decide) rfl ?_
  refine r_aload_n dX6_goOne_10 rfl (by decide) ?_
  refine r_getr (x := 50) dX6_goOne_11 flX6_21 sf49 (by decide) (by decide) rfl rfl ?_
  refine r_getr (x := 53) dX6_goOne_14 flX6_130 sf50 (by decide) (by decide) rfl rfl ?_
  refine r_iload_n dX6_goOne_17 rfl ?_
  refine r_iconst dX6_goOne_18 (by decide) ?_
  refine r_iast dX6_goOne_19 sf53 (by decide) (by omega) (by omega) (by decide) rfl ?_
  refine r_aload_n dX6_goOne_20 rfl (by decide) ?_
  refine r_getr (x := 50) dX6_goOne_21 flX6_21 sf49 (by decide) (by decide) rfl rfl ?_
  refine r_iload_n dX6_goOne_24 rfl ?_
  refine r_iconst dX6_goOne_25 (by decide) ?_
  refine r_cw2 dX6_goOne_26 clX6_156 sf50 (by decide) (by decide) rfl (by first | decide | omega) (Nat.le_of_ble_eq_true rfl) ((c_write (by rw [up_ne (by omega), up_ne (by omega)]; exact h4))) ⟨Nat.zero_le _, Nat.zero_le _⟩ ?_
  refine r_ret0 dX6_goOne_29 rfl ?_
  exact ⟨rfl, rfl, rfl⟩
theorem c_comeBack {x y z : Int} {M : Me} {c d : Int} (hc : 0 ≤ c ∧ c < 12) (h4 : 0 ≤ M 50 4 ∧ M 50 4 ≤ 30) : Con kX6_comeBack 2 0 0 [(1, 49), (0, c), (0, d)] (Sf x y z) M (Ex none (Sf x y z) (cbC M c d)) := by
  refine Con.ofV (al := [(1, 49), (0, c), (0, d)]) 0 (by decide) (Nat.le_of_ble_eq_true rfl) rfl ?_
  refine r_aload_n dX6_comeBack_0 rfl (by decide) ?_
  refine r_getr (x := 50) dX6_comeBack_1 flX6_21 sf49 (by decide) (by decide) rfl rfl ?_
  refine r_getr (x := 52) dX6_comeBack_4 flX6_118 sf50 (by decide) (by decide) rfl rfl ?_
  refine r_iload_n dX6_comeBack_7 rfl ?_
  refine r_iconst dX6_comeBack_8 (by decide) ?_
  refine r_iast dX6_comeBack_9 sf52 (by decide) (by omega) (by omega) (by decide) rfl ?_
  refine r_aload_n dX6_comeBack_10 rfl (by decide) ?_
  refine r_getr (x := 50) dX6_comeBack_11 flX6_21 sf49 (by decide) (by decide) rfl rfl ?_
  refine r_getr (x := 53) dX6_comeBack_14 flX6_130 sf50 (by decide) (by decide) rfl rfl ?_
  refine r_iload_n dX6_comeBack_17 rfl ?_
  refine r_iload_n dX6_comeBack_18 rfl ?_
  refine r_iast dX6_comeBack_19 sf53 (by decide) (by omega) (by omega) (by decide) rfl ?_
  refine r_aload_n dX6_comeBack_20 rfl (by decide) ?_
  refine r_getr (x := 50) dX6_comeBack_21 flX6_21 sf49 (by decide) (by decide) rfl rfl ?_
  refine r_iload_n dX6_comeBack_24 rfl ?_
  refine r_iconst dX6_comeBack_25 (by decide) ?_
  refine r_cw2 dX6_comeBack_26 clX6_156 sf50 (by decide) (by decide) rfl (by first | decide | omega) (Nat.le_of_ble_eq_true rfl) ((c_write (by rw [up_ne (by omega), up_ne (by omega)]; exact h4))) ⟨Nat.zero_le _, Nat.zero_le _⟩ ?_
  refine r_ret0 dX6_comeBack_29 rfl ?_
  exact ⟨rfl, rfl, rfl⟩
theorem l_goWith {x y z : Int} {M : Me} {c : Int} (h : CI M) {n : Nat} (hn : M 50 3 = (n : Int)) (hn12 : n ≤ 12) (hc : 0 ≤ c ∧ c < 12) : ∀ (m i : Nat), m + i = n → V kX6_goWithHanging 0 0 3 none (Ex none (Sf x y z) (goS M c n)) 2 [(1, 49), (0, c), (0, (i : Int))] [] (Sf x y z) (goS M c i) 0 0 := by
  intro m
  induction m with
  | zero =>
    intro i hi
    obtain rfl : i = n := by omega
    refine r_iload_n dX6_goWithHanging_2 rfl ?_
    refine r_aload_n dX6_goWithHanging_3 rfl (by decide) ?_
    refine r_getr (x := 50) dX6_goWithHanging_4 flX6_21 sf49 (by decide) (by decide) rfl rfl ?_
    refine r_gi 3 dX6_goWithHanging_7 flX6_111 sf50 (by decide) (by decide) rfl rfl ((goS_o (by omega) i).trans hn) ?_
    refine r_icmp_ge (tgt := 50) dX6_goWithHanging_10 (by decide) (fun h10 => ?_) (fun h10 => by exfalso; omega)
    refine r_ret0 dX6_goWithHanging_50 rfl ?_
    exact ⟨rfl, rfl, rfl⟩
  | succ m ih =>
    intro i hi
    have hb := (CI.gs h (c := c) i).b
    refine r_iload_n dX6_goWithHanging_2 rfl ?_
    refine r_aload_n dX6_goWithHanging_3 rfl (by decide) ?_
    refine r_getr (x := 50) dX6_goWithHanging_4 flX6_21 sf49 (by decide) (by decide) rfl rfl ?_
    refine r_gi 3 dX6_goWithHanging_7 flX6_111 sf50 (by decide) (by decide) rfl rfl ((goS_o (by omega) i).trans hn) ?_
    refine r_icmp_ge (tgt := 50) dX6_goWithHanging_10 (by decide) (fun h10 => by exfalso; omega) (fun h10 => ?_)
    refine r_aload_n dX6_goWithHanging_13 rfl (by decide) ?_
    refine r_getr (x := 214) dX6_goWithHanging_14 flX6_54 sf49 (by decide) (by decide) rfl rfl ?_
    refine r_iload_n dX6_goWithHanging_17 rfl ?_
    refine r_iald dX6_goWithHanging_18 sf214 (by decide) (by omega) (by omega) (by decide) (goS_o (by omega) i) ?_
    refine r_iload_n dX6_goWithHanging_19 rfl ?_
    refine r_ishr dX6_goWithHanging_20 rfl ?_
    refine r_iconst dX6_goWithHanging_21 (by decide) ?_
    refine r_iand dX6_goWithHanging_22 rfl ?_
    refine r_iconst dX6_goWithHanging_23 (by decide) ?_
    refine r_icmp_ne (tgt := 44) dX6_goWithHanging_24 (by decide) (fun h24 => ?_) (fun h24 => ?_)
    · refine V.cm rfl (goS_f (fun q => absurd q.1 (by assumption))).symm ?_
      refine r_iinc dX6_goWithHanging_44 rfl rfl (by decide) (w32_id (by omega)) st2 ?_
      refine r_goto (tgt := 2) dX6_goWithHanging_47 (by decide) ?_
      exact ih (i + 1) (by omega)
    · refine r_aload_n dX6_goWithHanging_27 rfl (by decide) ?_
      refine r_getr (x := 50) dX6_goWithHanging_28 flX6_21 sf49 (by decide) (by decide) rfl rfl ?_
      refine r_getr (x := 52) dX6_goWithHanging_31 flX6_118 sf50 (by decide) (by decide) rfl rfl ?_
      refine r_iload_n dX6_goWithHanging_34 rfl ?_
      refine r_iald dX6_goWithHanging_35 sf52 (by decide) (by omega) (by omega) (by decide) rfl ?_
      refine r_if_ne (tgt := 44) dX6_goWithHanging_36 (by decide) (fun h36 => ?_) (fun h36 => ?_)
      · refine V.cm rfl (goS_f (fun q => absurd q.2 (by assumption))).symm ?_
        refine r_iinc dX6_goWithHanging_44 rfl rfl (by decide) (w32_id (by omega)) st2 ?_
        refine r_goto (tgt := 2) dX6_goWithHanging_47 (by decide) ?_
        exact ih (i + 1) (by omega)
      · refine r_aload_n dX6_goWithHanging_39 rfl (by decide) ?_
        refine r_iload_n dX6_goWithHanging_40 rfl ?_
        refine r_cw1 dX6_goWithHanging_41 clX6_163 sf49 (by decide) (by decide) rfl (by first | decide | omega) (Nat.le_of_ble_eq_true rfl) ((c_goOne (by omega) hb)) ⟨Nat.zero_le _, Nat.zero_le _⟩ ?_
        refine V.cm rfl (goS_t ⟨by assumption, by assumption⟩).symm ?_
        refine r_iinc dX6_goWithHanging_44 rfl rfl (by decide) (w32_id (by omega)) st2 ?_
        refine r_goto (tgt := 2) dX6_goWithHanging_47 (by decide) ?_
        exact ih (i + 1) (by omega)
theorem c_goWith {x y z : Int} {M : Me} {c : Int} (h : CI M) {n : Nat} (hn : M 50 3 = (n : Int)) (hn12 : n ≤ 12) (hc : 0 ≤ c ∧ c < 12) : Con kX6_goWithHanging 3 0 0 [(1, 49), (0, c)] (Sf x y z) M (Ex none (Sf x y z) (goS M c n)) := by
  refine Con.ofV (al := [(1, 49), (0, c), (9, 0)]) 1 (by decide) (Nat.le_of_ble_eq_true rfl) rfl ?_
  refine r_iconst dX6_goWithHanging_0 (by decide) ?_
  refine r_istore_n dX6_goWithHanging_1 rfl (by decide) st2 ?_
  exact l_goWith h hn hn12 hc n 0 (by omega)
def po1 (M : Me) (c : Int) : Me := up (blM M 0 c (M 49 2)) 53 c (max 0 (M 53 c - blC M 0 c (M 49 2)))
def po2 (M : Me) (c : Int) : Me := blM (drC M) 1 c (M 49 2)
/-- whether it scorches -/
def poC (M : Me) (c : Int) : Int := if M 50 1 % 10 < blC (drC M) 1 c (M 49 2) then 1 else 0
def po3 (M : Me) (n : Nat) (c s : Int) : Me := if s ≠ 0 then wrC (up (up M 52 c 2) 53 c 0) c 1 else if M 53 c = 0 then goS M c n else M
def po4 (M : Me) (c : Int) : Me := up (blM M 2 c (M 49 2)) 51 (M 209 c) (max 0 (M 51 (M 209 c) - blC M 2 c (M 49 2)))
def poM (M : Me) (n : Nat) (c : Int) : Me := po4 (po3 (po2 (po1 M c) c) n c (poC (po1 M c) c)) c
theorem wlC_b {M : Me} (h : CI M) {l c : Int} (hc : 0 ≤ c ∧ c < M 50 3) : 0 ≤ wlC M l c ∧ wlC M l c ≤ 9 := by
  have he := h.e
  have := (h.2.1 c hc.1 hc.2).2.2.1
  unfold wlC
  (repeat' split) <;> omega
theorem blC_b {M : Me} (h : CI M) {l c t : Int} (hc : 0 ≤ c ∧ c < M 50 3) : 0 ≤ blC M l c t ∧ blC M l c t ≤ 9999 := by
  have := wlC_b h (l := l) hc
  unfold blC mostC
  (repeat' split) <;> omega
theorem CI.p1 {M : Me} (h : CI M) {c : Int} (hc : 0 ≤ c ∧ c < M 50 3) : CI (po1 M c) := by
  have := (h.2.1 c hc.1 hc.2).2.2.1
  have := blC_b h (l := 0) (t := M 49 2) hc
  exact h.bl.u53 (by omega)
theorem CI.p2 {M : Me} (h : CI M) {c : Int} : CI (po2 M c) := h.dr.bl
theorem CI.p3 {M : Me} (h : CI M) {n : Nat} {c s : Int} : CI (po3 M n c s) := by
  unfold po3
  (repeat' split)
  · exact ((h.u52 (by decide)).u53 (by decide)).wr
  · exact h.gs n
  · exact h
theorem CI.p4 {M : Me} (h : CI M) {c : Int} (hc : 0 ≤ c ∧ c < M 50 3) : CI (po4 M c) := by
  have a2 := (h.2.1 c hc.1 hc.2).1
  have := (h.2.2.1 _ a2.1 a2.2).1
  have := blC_b h (l := 2) (t := M 49 2) hc
  exact h.bl.u51 (by omega)
theorem po1_o {M : Me} {c a j : Int} (h : ¬ ((a = 48 ∧ 0 ≤ j ∧ j < 64) ∨ (a = 47 ∧ j = 1) ∨ a = 53)) : po1 M c a j = M a j := (up_ne (by omega)).trans (blM_o (by omega))
theorem po2_o {M : Me} {c a j : Int} (h : ¬ ((a = 48 ∧ 0 ≤ j ∧ j < 64) ∨ (a = 47 ∧ j = 1) ∨ (a = 50 ∧ j = 1))) : po2 M c a j = M a j := (blM_o (by omega)).trans (up_ne (by omega))
theorem po3_o {M : Me} {n : Nat} {c s a j : Int} (h : ¬ ((52 ≤ a ∧ a ≤ 54) ∨ (a = 50 ∧ j = 4))) : po3 M n c s a j = M a j := by
  unfold po3
  (repeat' split)
  · rw [wrC_o (by omega), up_ne (by omega), up_ne (by omega)]
  · exact goS_o h n
  · rfl
theorem po4_o {M : Me} {c a j : Int} (h : ¬ ((a = 48 ∧ 0 ≤ j ∧ j < 64) ∨ (a = 47 ∧ j = 1) ∨ a = 51)) : po4 M c a j = M a j := (up_ne (by omega)).trans (blM_o (by omega))
theorem poM_o {M : Me} {n : Nat} {c a j : Int} (h : ¬ ((a = 48 ∧ 0 ≤ j ∧ j < 64) ∨ (a = 47 ∧ j = 1) ∨ (51 ≤ a ∧ a ≤ 54) ∨ (a = 50 ∧ (j = 1 ∨ j = 4)))) : poM M n c a j = M a j := by
  unfold poM
  rw [po4_o (by omega), po3_o (by omega), po2_o (by omega), po1_o (by omega)]
theorem CI.po {M : Me} (h : CI M) {n : Nat} {c : Int} (hc : 0 ≤ c ∧ c < M 50 3) : CI (poM M n c) := (h.p1 hc).p2.p3.p4 (by rw [po3_o (by omega), po2_o (by omega), po1_o (by omega)]; exact hc)
theorem l_pressCost {x y z : Int} {M : Me} {c : Int} (h : CI M) (hc : 0 ≤ c ∧ c < M 50 3) {v2 v3 : Int} : V kX6_pressOne 0 0 5 none (Ex none (Sf x y z) (po4 M c)) 106 [(1, 49), (0, c), (0, v2), (0, v3), (9, 0)] [] (Sf x y z) M 0 0 := by
  have a2 := (h.2.1 c hc.1 hc.2).1
  have a3 := (h.2.2.1 _ a2.1 a2.2).1
  have a4 := blC_b h (l := 2) (t := M 49 2) hc
  have hp := h.p
  have h3 := h.c
  refine r_aload_n dX6_pressOne_106 rfl (by decide) ?_
  refine r_getr (x := 209) dX6_pressOne_107 flX6_39 sf49 (by decide) (by decide) rfl rfl ?_
  refine r_iload_n dX6_pressOne_110 rfl ?_
  refine r_iald dX6_pressOne_111 sf209 (by decide) (by omega) (by omega) (by decide) rfl ?_
  refine r_istore dX6_pressOne_112 rfl (by decide) st4 ?_
  refine r_aload_n dX6_pressOne_114 rfl (by decide) ?_
  refine r_getr (x := 50) dX6_pressOne_115 flX6_21 sf49 (by decide) (by decide) rfl rfl ?_
  refine r_getr (x := 51) dX6_pressOne_118 flX6_121 sf50 (by decide) (by decide) rfl rfl ?_
  refine r_iload dX6_pressOne_121 rfl ?_
  refine r_iconst dX6_pressOne_123 (by decide) ?_
  refine r_aload_n dX6_pressOne_124 rfl (by decide) ?_
  refine r_getr (x := 50) dX6_pressOne_125 flX6_21 sf49 (by decide) (by decide) rfl rfl ?_
  refine r_getr (x := 51) dX6_pressOne_128 flX6_121 sf50 (by decide) (by decide) rfl rfl ?_
  refine r_iload dX6_pressOne_131 rfl ?_
  refine r_iald dX6_pressOne_133 sf51 (by decide) (by omega) (by omega) (by decide) rfl ?_
  refine r_aload_n dX6_pressOne_134 rfl (by decide) ?_
  refine r_iconst dX6_pressOne_135 (by decide) ?_
  refine r_iload_n dX6_pressOne_136 rfl ?_
  refine r_aload_n dX6_pressOne_137 rfl (by decide) ?_
  refine r_gi 2 dX6_pressOne_138 flX6_15 sf49 (by decide) (by decide) rfl rfl rfl ?_
  refine r_cv3 dX6_pressOne_141 clX6_142 sf49 (by decide) (by decide) rfl (by first | decide | omega) (Nat.le_of_ble_eq_true rfl) ((c_byLaw h hc (by decide))) ⟨Nat.zero_le _, Nat.zero_le _⟩ (fun _ => ?_)
  refine r_isub dX6_pressOne_144 (w32_id (by omega)) ?_
  refine r_mmax dX6_pressOne_145 clmX6_146 ma_max1 ii_Math ma_max2 (by decide) (Nat.le_of_ble_eq_true rfl) rfl ?_
  refine r_iast dX6_pressOne_148 sf51 (by decide) (by omega) (by omega) (by decide) rfl ?_
  refine r_ret0 dX6_pressOne_149 rfl ?_
  exact ⟨rfl, rfl, rfl⟩
theorem poM_s {M : Me} {n : Nat} {c : Int} (hs : (po1 M c) 50 1 % 10 < blC (drC (po1 M c)) 1 c ((po1 M c) 49 2)) : poM M n c = po4 (wrC (up (up (po2 (po1 M c) c) 52 c 2) 53 c 0) c 1) c := by
  unfold poM po3
  rw [show poC (po1 M c) c = 1 from if_pos hs, if_pos (by decide)]
theorem poM_g {M : Me} {n : Nat} {c : Int} (hs : ¬ (po1 M c) 50 1 % 10 < blC (drC (po1 M c)) 1 c ((po1 M c) 49 2)) (hd : (po2 (po1 M c) c) 53 c = 0) : poM M n c = po4 (goS (po2 (po1 M c) c) c n) c := by
  unfold poM po3
  rw [show poC (po1 M c) c = 0 from if_neg hs, if_neg (by decide), if_pos hd]
theorem poM_n {M : Me} {n : Nat} {c : Int} (hs : ¬ (po1 M c) 50 1 % 10 < blC (drC (po1 M c)) 1 c ((po1 M c) 49 2)) (hd : (po2 (po1 M c) c) 53 c ≠ 0) : poM M n c = po4 (po2 (po1 M c) c) c := by
  unfold poM po3
  rw [show poC (po1 M c) c = 0 from if_neg hs, if_neg (by decide), if_neg hd]
set_option maxHeartbeats 1000000 in
theorem c_pressOne {x y z : Int} {M : Me} {c : Int} (h : CI M) (hc : 0 ≤ c ∧ c < M 50 3) {n : Nat} (hn : M 50 3 = (n : Int)) (hn12 : n ≤ 12) : Con kX6_pressOne 5 0 0 [(1, 49), (0, c)] (Sf x y z) M (Ex none (Sf x y z) (poM M n c)) := by
  refine Con.ofV (al := [(1, 49), (0, c), (9, 0), (9, 0), (9, 0)]) 3 (by decide) (Nat.le_of_ble_eq_true rfl) rfl ?_
  have h3 := h.c
  have hb := blC_b h (l := 0) (t := M 49 2) hc
  have hd := (h.2.1 c hc.1 hc.2).2.2.1
  have h1 := h.p1 hc
  have e1 : (po1 M c) 50 3 = M 50 3 := po1_o (by omega)
  have h2 := h1.p2 (c := c)
  have e2 : (po2 (po1 M c) c) 50 3 = M 50 3 := (po2_o (by omega)).trans e1
  have hx := h1.x
  have hb2 := blC_b h1.dr (l := 1) (c := c) (t := (po1 M c) 49 2) (by rw [show drC (po1 M c) 50 3 = (po1 M c) 50 3 from up_ne (by omega)]; omega)
  refine r_aload_n dX6_pressOne_0 rfl (by decide) ?_
  refine r_iconst dX6_pressOne_1 (by decide) ?_
  refine r_iload_n dX6_pressOne_2 rfl ?_
  refine r_aload_n dX6_pressOne_3 rfl (by decide) ?_
  refine r_gi 2 dX6_pressOne_4 flX6_15 sf49 (by decide) (by decide) rfl rfl rfl ?_
  refine r_cv3 dX6_pressOne_7 clX6_142 sf49 (by decide) (by decide) rfl (by first | decide | omega) (Nat.le_of_ble_eq_true rfl) ((c_byLaw h hc (by decide))) ⟨Nat.zero_le _, Nat.zero_le _⟩ (fun _ => ?_)
  refine r_istore_n dX6_pressOne_10 rfl (by decide) st2 ?_
  refine r_aload_n dX6_pressOne_11 rfl (by decide) ?_
  refine r_getr (x := 50) dX6_pressOne_12 flX6_21 sf49 (by decide) (by decide) rfl rfl ?_
  refine r_getr (x := 53) dX6_pressOne_15 flX6_130 sf50 (by decide) (by decide) rfl rfl ?_
  refine r_iload_n dX6_pressOne_18 rfl ?_
  refine r_iconst dX6_pressOne_19 (by decide) ?_
  refine r_aload_n dX6_pressOne_20 rfl (by decide) ?_
  refine r_getr (x := 50) dX6_pressOne_21 flX6_21 sf49 (by decide) (by decide) rfl rfl ?_
  refine r_getr (x := 53) dX6_pressOne_24 flX6_130 sf50 (by decide) (by decide) rfl rfl ?_
  refine r_iload_n dX6_pressOne_27 rfl ?_
  refine r_iald dX6_pressOne_28 sf53 (by decide) (by omega) (by omega) (by decide) (blM_o (by omega)) ?_
  refine r_iload_n dX6_pressOne_29 rfl ?_
  refine r_isub dX6_pressOne_30 (w32_id (by omega)) ?_
  refine r_mmax dX6_pressOne_31 clmX6_146 ma_max1 ii_Math ma_max2 (by decide) (Nat.le_of_ble_eq_true rfl) rfl ?_
  refine r_iast dX6_pressOne_34 sf53 (by decide) (by omega) (by omega) (by decide) rfl ?_
  refine V.cm rfl (show _ = po1 M c from rfl) ?_
  refine r_aload_n dX6_pressOne_35 rfl (by decide) ?_
  refine r_getr (x := 50) dX6_pressOne_36 flX6_21 sf49 (by decide) (by decide) rfl rfl ?_
  refine r_cv0 dX6_pressOne_39 clX6_152 sf50 (by decide) (by decide) rfl (by first | decide | omega) (Nat.le_of_ble_eq_true rfl) ((c_draw h1.x)) ⟨Nat.zero_le _, Nat.zero_le _⟩ (fun _ => ?_)
  refine r_istore_n dX6_pressOne_42 rfl (by decide) st3 ?_
  refine r_iload_n dX6_pressOne_43 rfl ?_
  refine r_aload_n dX6_pressOne_44 rfl (by decide) ?_
  refine r_iconst dX6_pressOne_45 (by decide) ?_
  refine r_iload_n dX6_pressOne_46 rfl ?_
  refine r_aload_n dX6_pressOne_47 rfl (by decide) ?_
  refine r_gi 2 dX6_pressOne_48 flX6_15 sf49 (by decide) (by decide) rfl rfl (up_ne (by omega)) ?_
  refine r_cv3 dX6_pressOne_51 clX6_142 sf49 (by decide) (by decide) rfl (by first | decide | omega) (Nat.le_of_ble_eq_true rfl) ((c_byLaw h1.dr (by rw [show drC (po1 M c) 50 3 = (po1 M c) 50 3 from up_ne (by omega)]; omega) (by decide))) ⟨Nat.zero_le _, Nat.zero_le _⟩ (fun _ => ?_)
  refine V.cm rfl (show _ = (po2 (po1 M c) c) from rfl) ?_
  refine r_icmp_ge (tgt := 89) dX6_pressOne_54 (by decide) (fun h54 => ?_) (fun h54 => ?_)
  · refine r_aload_n dX6_pressOne_89 rfl (by decide) ?_
    refine r_getr (x := 50) dX6_pressOne_90 flX6_21 sf49 (by decide) (by decide) rfl rfl ?_
    refine r_getr (x := 53) dX6_pressOne_93 flX6_130 sf50 (by decide) (by decide) rfl rfl ?_
    refine r_iload_n dX6_pressOne_96 rfl ?_
    refine r_iald dX6_pressOne_97 sf53 (by decide) (by omega) (by omega) (by decide) rfl ?_
    refine r_if_ne (tgt := 106) dX6_pressOne_98 (by decide) (fun h98 => ?_) (fun h98 => ?_)
    · first | (rw [poM_s (by omega)]; exact l_pressCost (M := wrC (up (up (po2 (po1 M c) c) 52 c 2) 53 c 0) c 1) (((h2.u52 (by decide)).u53 (by decide)).wr) (by rw [wrC_o (by omega), up_ne (by omega), up_ne (by omega)]; omega)) | (rw [poM_n (by omega) (by assumption)]; exact l_pressCost (M := (po2 (po1 M c) c)) (h2) (by rw [e2]; omega)) | (rw [poM_g (by omega) (by assumption)]; exact l_pressCost (M := goS (po2 (po1 M c) c) c n) (h2.gs n) (by rw [goS_o (by omega) n]; omega))
    · refine r_aload_n dX6_pressOne_101 rfl (by decide) ?_
      refine r_iload_n dX6_pressOne_102 rfl ?_
      refine r_cw1 dX6_pressOne_103 clX6_160 sf49 (by decide) (by decide) rfl (by first | decide | omega) (Nat.le_of_ble_eq_true rfl) ((c_goWith h2 (e2.trans hn) hn12 (by omega))) ⟨Nat.zero_le _, Nat.zero_le _⟩ ?_
      first | (rw [poM_s (by omega)]; exact l_pressCost (M := wrC (up (up (po2 (po1 M c) c) 52 c 2) 53 c 0) c 1) (((h2.u52 (by decide)).u53 (by decide)).wr) (by rw [wrC_o (by omega), up_ne (by omega), up_ne (by omega)]; omega)) | (rw [poM_n (by omega) (by assumption)]; exact l_pressCost (M := (po2 (po1 M c) c)) (h2) (by rw [e2]; omega)) | (rw [poM_g (by omega) (by assumption)]; exact l_pressCost (M := goS (po2 (po1 M c) c) c n) (h2.gs n) (by rw [goS_o (by omega) n]; omega))
  · refine r_aload_n dX6_pressOne_57 rfl (by decide) ?_
    refine r_getr (x := 50) dX6_pressOne_58 flX6_21 sf49 (by decide) (by decide) rfl rfl ?_
    refine r_getr (x := 52) dX6_pressOne_61 flX6_118 sf50 (by decide) (by decide) rfl rfl ?_
    refine r_iload_n dX6_pressOne_64 rfl ?_
    refine r_iconst dX6_pressOne_65 (by decide) ?_
    refine r_iast dX6_pressOne_66 sf52 (by decide) (by omega) (by omega) (by decide) rfl ?_
    refine r_aload_n dX6_pressOne_67 rfl (by decide) ?_
    refine r_getr (x := 50) dX6_pressOne_68 flX6_21 sf49 (by decide) (by decide) rfl rfl ?_
    refine r_getr (x := 53) dX6_pressOne_71 flX6_130 sf50 (by decide) (by decide) rfl rfl ?_
    refine r_iload_n dX6_pressOne_74 rfl ?_
    refine r_iconst dX6_pressOne_75 (by decide) ?_
    refine r_iast dX6_pressOne_76 sf53 (by decide) (by omega) (by omega) (by decide) rfl ?_
    refine r_aload_n dX6_pressOne_77 rfl (by decide) ?_
    refine r_getr (x := 50) dX6_pressOne_78 flX6_21 sf49 (by decide) (by decide) rfl rfl ?_
    refine r_iload_n dX6_pressOne_81 rfl ?_
    refine r_iconst dX6_pressOne_82 (by decide) ?_
    refine r_cw2 dX6_pressOne_83 clX6_156 sf50 (by decide) (by decide) rfl (by first | decide | omega) (Nat.le_of_ble_eq_true rfl) ((c_write (by rw [up_ne (by omega), up_ne (by omega)]; exact h2.b))) ⟨Nat.zero_le _, Nat.zero_le _⟩ ?_
    refine r_goto (tgt := 106) dX6_pressOne_86 (by decide) ?_
    first | (rw [poM_s (by omega)]; exact l_pressCost (M := wrC (up (up (po2 (po1 M c) c) 52 c 2) 53 c 0) c 1) (((h2.u52 (by decide)).u53 (by decide)).wr) (by rw [wrC_o (by omega), up_ne (by omega), up_ne (by omega)]; omega)) | (rw [poM_n (by omega) (by assumption)]; exact l_pressCost (M := (po2 (po1 M c) c)) (h2) (by rw [e2]; omega)) | (rw [poM_g (by omega) (by assumption)]; exact l_pressCost (M := goS (po2 (po1 M c) c) c n) (h2.gs n) (by rw [goS_o (by omega) n]; omega))
