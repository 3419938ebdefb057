abbrev mcP (M : Me) (n : Nat) (c : Int) : Prop := (0 ≤ c ∧ c < M 50 3) ∧ M 52 c = 1 ∧ and32 (M 213 c) (xor32 (bset (fun c : Int => M 52 c = 0) (fun c => c) n) (-1)) = 0
def psC (M : Me) (n : Nat) (c : Int) : Me := if (0 ≤ c ∧ c < M 50 3) ∧ M 52 c = 0 then poM (keC M) n c else M
def psV (M : Me) (c : Int) : Int := if (0 ≤ c ∧ c < M 50 3) ∧ M 52 c = 0 then 1 else 0
theorem c_pressStep {x y z : Int} {M : Me} {c : Int} (h : CI M) {n : Nat} (hn : M 50 3 = (n : Int)) (hn12 : n ≤ 12) : Con kX6_pressStep 6 0 0 [(1, 49), (0, c)] (Sf x y z) M (Ex (some (0, psV M c)) (Sf x y z) (psC M n c)) := by
  refine Con.ofV (al := [(1, 49), (0, c)]) 0 (by decide) (Nat.le_of_ble_eq_true rfl) rfl ?_
  have e3 : keC M 50 3 = M 50 3 := keC_o (by omega)
  refine r_aload_n dX6_pressStep_0 rfl (by decide) ?_
  refine r_iload_n dX6_pressStep_1 rfl ?_
  refine r_cv1 dX6_pressStep_2 clX6_133 sf49 (by decide) (by decide) rfl (by first | decide | omega) (Nat.le_of_ble_eq_true rfl) ((s_isThere h.c)) ⟨Nat.zero_le _, Nat.zero_le _⟩ (fun _ => ?_)
  refine r_if_ne (tgt := 10) dX6_pressStep_5 (by decide) (fun h5 => ?_) (fun h5 => ?_)
  · try have h5 := bi_1.mp h5
    refine r_aload_n dX6_pressStep_10 rfl (by decide) ?_
    refine r_getr (x := 55) dX6_pressStep_11 flX6_28 sf49 (by decide) (by decide) rfl rfl ?_
    refine r_aload_n dX6_pressStep_14 rfl (by decide) ?_
    refine r_getr (x := 50) dX6_pressStep_15 flX6_21 sf49 (by decide) (by decide) rfl rfl ?_
    refine r_cw1 dX6_pressStep_18 clX6_136 sf55 (by decide) (by decide) rfl (by first | decide | omega) (Nat.le_of_ble_eq_true rfl) ((c_keep h.s h.f)) ⟨Nat.zero_le _, Nat.zero_le _⟩ ?_
    refine r_aload_n dX6_pressStep_21 rfl (by decide) ?_
    refine r_iload_n dX6_pressStep_22 rfl ?_
    refine r_cw1 dX6_pressStep_23 clX6_139 sf49 (by decide) (by decide) rfl (by first | decide | omega) (Nat.le_of_ble_eq_true rfl) ((c_pressOne h.ke (by rw [e3]; omega) (e3.trans hn) hn12)) ⟨Nat.zero_le _, Nat.zero_le _⟩ ?_
    refine r_iconst dX6_pressStep_26 (by decide) ?_
    refine r_zret dX6_pressStep_27 rfl (by omega) ?_
    first | exact ⟨by rw [show psV M c = 1 from if_pos (by omega)], rfl, by rw [show psC M n c = _ from if_pos (by omega)]⟩ | exact ⟨by rw [show psV M c = 0 from if_neg (by omega)], rfl, by rw [show psC M n c = M from if_neg (by omega)]⟩
  · try have h5 := bi_0.mp h5
    refine r_iconst dX6_pressStep_8 (by decide) ?_
    refine r_zret dX6_pressStep_9 rfl (by omega) ?_
    first | exact ⟨by rw [show psV M c = 1 from if_pos (by omega)], rfl, by rw [show psC M n c = _ from if_pos (by omega)]⟩ | exact ⟨by rw [show psV M c = 0 from if_neg (by omega)], rfl, by rw [show psC M n c = M from if_neg (by omega)]⟩
theorem c_mayComeBack {x y z : Int} {M : Me} {c : Int} {n : Nat} (hn : M 50 3 = (n : Int)) (hn12 : n ≤ 12) : Con kX6_mayComeBack 1 0 0 [(1, 49), (0, c)] (Sf x y z) M (Ex (some (0, bi (mcP M n c))) (Sf x y z) M) := by
  refine Con.ofV (al := [(1, 49), (0, c)]) 0 (by decide) (Nat.le_of_ble_eq_true rfl) rfl ?_
  refine r_aload_n dX6_mayComeBack_0 rfl (by decide) ?_
  refine r_iload_n dX6_mayComeBack_1 rfl ?_
  refine r_cv1 dX6_mayComeBack_2 clX6_114 sf49 (by decide) (by decide) rfl (by first | decide | omega) (Nat.le_of_ble_eq_true rfl) (s_isCrease) ⟨Nat.zero_le _, Nat.zero_le _⟩ (fun _ => ?_)
  refine r_if_eq (tgt := 41) dX6_mayComeBack_5 (by decide) (fun h5 => ?_) (fun h5 => ?_)
  · try have h5 := bi_0.mp h5
    refine r_iconst dX6_mayComeBack_41 (by decide) ?_
    refine r_zret dX6_mayComeBack_42 rfl (by omega) ?_
    first | exact ⟨by rw [bi_t (show mcP M n c from ⟨by omega, by omega, by assumption⟩)], rfl, rfl⟩ | exact ⟨by rw [bi_f (show ¬ mcP M n c from fun q => by first | omega | exact absurd q.2.2 (by assumption))], rfl, rfl⟩
  · try have h5 := bi_1.mp h5
    refine r_aload_n dX6_mayComeBack_8 rfl (by decide) ?_
    refine r_getr (x := 50) dX6_mayComeBack_9 flX6_21 sf49 (by decide) (by decide) rfl rfl ?_
    refine r_getr (x := 52) dX6_mayComeBack_12 flX6_118 sf50 (by decide) (by decide) rfl rfl ?_
    refine r_iload_n dX6_mayComeBack_15 rfl ?_
    refine r_iald dX6_mayComeBack_16 sf52 (by decide) (by omega) (by omega) (by decide) rfl ?_
    refine r_iconst dX6_mayComeBack_17 (by decide) ?_
    refine r_icmp_ne (tgt := 41) dX6_mayComeBack_18 (by decide) (fun h18 => ?_) (fun h18 => ?_)
    · refine r_iconst dX6_mayComeBack_41 (by decide) ?_
      refine r_zret dX6_mayComeBack_42 rfl (by omega) ?_
      first | exact ⟨by rw [bi_t (show mcP M n c from ⟨by omega, by omega, by assumption⟩)], rfl, rfl⟩ | exact ⟨by rw [bi_f (show ¬ mcP M n c from fun q => by first | omega | exact absurd q.2.2 (by assumption))], rfl, rfl⟩
    · refine r_aload_n dX6_mayComeBack_21 rfl (by decide) ?_
      refine r_getr (x := 213) dX6_mayComeBack_22 flX6_51 sf49 (by decide) (by decide) rfl rfl ?_
      refine r_iload_n dX6_mayComeBack_25 rfl ?_
      refine r_iald dX6_mayComeBack_26 sf213 (by decide) (by omega) (by omega) (by decide) rfl ?_
      refine r_aload_n dX6_mayComeBack_27 rfl (by decide) ?_
      refine r_cv0 dX6_mayComeBack_28 clX6_166 sf49 (by decide) (by decide) rfl (by first | decide | omega) (Nat.le_of_ble_eq_true rfl) ((s_allThere hn hn12)) ⟨Nat.zero_le _, Nat.zero_le _⟩ (fun _ => ?_)
      refine r_iconst dX6_mayComeBack_31 (by decide) ?_
      refine r_ixor dX6_mayComeBack_32 rfl ?_
      refine r_iand dX6_mayComeBack_33 rfl ?_
      refine r_if_ne (tgt := 41) dX6_mayComeBack_34 (by decide) (fun h34 => ?_) (fun h34 => ?_)
      · refine r_iconst dX6_mayComeBack_41 (by decide) ?_
        refine r_zret dX6_mayComeBack_42 rfl (by omega) ?_
        first | exact ⟨by rw [bi_t (show mcP M n c from ⟨by omega, by omega, by assumption⟩)], rfl, rfl⟩ | exact ⟨by rw [bi_f (show ¬ mcP M n c from fun q => by first | omega | exact absurd q.2.2 (by assumption))], rfl, rfl⟩
      · refine r_iconst dX6_mayComeBack_37 (by decide) ?_
        refine r_goto (tgt := 42) dX6_mayComeBack_38 (by decide) ?_
        refine r_zret dX6_mayComeBack_42 rfl (by omega) ?_
        first | exact ⟨by rw [bi_t (show mcP M n c from ⟨by omega, by omega, by assumption⟩)], rfl, rfl⟩ | exact ⟨by rw [bi_f (show ¬ mcP M n c from fun q => by first | omega | exact absurd q.2.2 (by assumption))], rfl, rfl⟩
def ptC (M : Me) (n : Nat) (c : Int) : Me := if mcP M n c then cbC (keC M) c (M 211 c) else M
def ptV (M : Me) (n : Nat) (c : Int) : Int := if mcP M n c then 1 else 0
theorem c_patternStep {x y z : Int} {M : Me} {c : Int} (h : CI M) {n : Nat} (hn : M 50 3 = (n : Int)) (hn12 : n ≤ 12) : Con kX6_patternStep 3 0 0 [(1, 49), (0, c)] (Sf x y z) M (Ex (some (0, ptV M n c)) (Sf x y z) (ptC M n c)) := by
  refine Con.ofV (al := [(1, 49), (0, c)]) 0 (by decide) (Nat.le_of_ble_eq_true rfl) rfl ?_
  have h3 := h.c
  refine r_aload_n dX6_patternStep_0 rfl (by decide) ?_
  refine r_iload_n dX6_patternStep_1 rfl ?_
  refine r_cv1 dX6_patternStep_2 clX6_169 sf49 (by decide) (by decide) rfl (by first | decide | omega) (Nat.le_of_ble_eq_true rfl) ((c_mayComeBack hn hn12)) ⟨Nat.zero_le _, Nat.zero_le _⟩ (fun _ => ?_)
  refine r_if_ne (tgt := 10) dX6_patternStep_5 (by decide) (fun h5 => ?_) (fun h5 => ?_)
  · try have h5 := bi_1.mp h5
    refine r_aload_n dX6_patternStep_10 rfl (by decide) ?_
    refine r_getr (x := 55) dX6_patternStep_11 flX6_28 sf49 (by decide) (by decide) rfl rfl ?_
    refine r_aload_n dX6_patternStep_14 rfl (by decide) ?_
    refine r_getr (x := 50) dX6_patternStep_15 flX6_21 sf49 (by decide) (by decide) rfl rfl ?_
    refine r_cw1 dX6_patternStep_18 clX6_136 sf55 (by decide) (by decide) rfl (by first | decide | omega) (Nat.le_of_ble_eq_true rfl) ((c_keep h.s h.f)) ⟨Nat.zero_le _, Nat.zero_le _⟩ ?_
    refine r_aload_n dX6_patternStep_21 rfl (by decide) ?_
    refine r_iload_n dX6_patternStep_22 rfl ?_
    refine r_aload_n dX6_patternStep_23 rfl (by decide) ?_
    refine r_getr (x := 211) dX6_patternStep_24 flX6_45 sf49 (by decide) (by decide) rfl rfl ?_
    refine r_iload_n dX6_patternStep_27 rfl ?_
    refine r_iald dX6_patternStep_28 sf211 (by decide) (by omega) (by omega) (by decide) (keC_o (by omega)) ?_
    refine r_cw2 dX6_patternStep_29 clX6_172 sf49 (by decide) (by decide) rfl (by first | decide | omega) (Nat.le_of_ble_eq_true rfl) ((c_comeBack (by omega) h.ke.b)) ⟨Nat.zero_le _, Nat.zero_le _⟩ ?_
    refine r_iconst dX6_patternStep_32 (by decide) ?_
    refine r_zret dX6_patternStep_33 rfl (by omega) ?_
    first | exact ⟨by rw [show ptV M n c = 1 from if_pos (by assumption)], rfl, by rw [show ptC M n c = _ from if_pos (by assumption)]⟩ | exact ⟨by rw [show ptV M n c = 0 from if_neg (by assumption)], rfl, by rw [show ptC M n c = M from if_neg (by assumption)]⟩
  · try have h5 := bi_0.mp h5
    refine r_iconst dX6_patternStep_8 (by decide) ?_
    refine r_zret dX6_patternStep_9 rfl (by omega) ?_
    first | exact ⟨by rw [show ptV M n c = 1 from if_pos (by assumption)], rfl, by rw [show ptC M n c = _ from if_pos (by assumption)]⟩ | exact ⟨by rw [show ptV M n c = 0 from if_neg (by assumption)], rfl, by rw [show ptC M n c = M from if_neg (by assumption)]⟩
def dnS (M : Me) (n : Nat) (k : Int) : Nat → Me × Int
  | 0 => (M, 0)
  | i + 1 => if (dnS M n k i).2 < k ∧ mcP (dnS M n k i).1 n i then (cbC (dnS M n k i).1 i 1, (dnS M n k i).2 + 1) else dnS M n k i
theorem dnS_t {M : Me} {n : Nat} {k : Int} {i : Nat} (h : (dnS M n k i).2 < k ∧ mcP (dnS M n k i).1 n i) : dnS M n k (i + 1) = (cbC (dnS M n k i).1 i 1, (dnS M n k i).2 + 1) := if_pos h
theorem dnS_f {M : Me} {n : Nat} {k : Int} {i : Nat} (h : ¬ ((dnS M n k i).2 < k ∧ mcP (dnS M n k i).1 n i)) : dnS M n k (i + 1) = dnS M n k i := if_neg h
theorem dnS_e {M : Me} {n : Nat} {k : Int} {i : Nat} (h : k ≤ (dnS M n k i).2) : ∀ m : Nat, dnS M n k (m + i) = dnS M n k i := by
  intro m
  induction m with
  | zero => rw [Nat.zero_add]
  | succ m ih => rw [show m + 1 + i = (m + i) + 1 by omega, dnS_f (fun q => by rw [ih] at q; omega), ih]
theorem dnS_w {M : Me} (h : CI M) {n : Nat} {k : Int} : ∀ i : Nat, CI (dnS M n k i).1 ∧ (∀ a j, ¬ ((52 ≤ a ∧ a ≤ 54) ∨ (a = 50 ∧ j = 4)) → (dnS M n k i).1 a j = M a j) ∧ 0 ≤ (dnS M n k i).2 ∧ (dnS M n k i).2 ≤ i := by
  intro i
  induction i with
  | zero => exact ⟨h, fun _ _ _ => rfl, Int.le_refl _, (show (0 : Int) ≤ ((0 : Nat) : Int) by omega)⟩
  | succ i ih =>
    by_cases q : (dnS M n k i).2 < k ∧ mcP (dnS M n k i).1 n i
    · rw [dnS_t q]
      exact ⟨ih.1.cb (by decide), fun a j q2 => (cbC_o q2).trans (ih.2.1 a j q2), by show 0 ≤ _ + 1; omega, by show _ + 1 ≤ _; omega⟩
    · rw [dnS_f q]
      exact ⟨ih.1, ih.2.1, ih.2.2.1, by omega⟩
theorem l_dampen {x y z : Int} {M : Me} {k : Int} (h : CI M) {n : Nat} (hn : M 50 3 = (n : Int)) (hn12 : n ≤ 12) : ∀ (m i : Nat), m + i = n → V kX6_dampen 0 0 3 none (Ex (some (0, (dnS M n k n).2)) (Sf x y z) (dnS M n k n).1) 4 [(1, 49), (0, k), (0, (dnS M n k i).2), (0, (i : Int))] [] (Sf x y z) (dnS M n k i).1 0 0 := by
  intro m
  induction m with
  | zero =>
    intro i hi
    obtain rfl : i = n := by omega
    have hI := dnS_w h (n := i) (k := k) i
    refine r_iload_n dX6_dampen_4 rfl ?_
    refine r_aload_n dX6_dampen_5 rfl (by decide) ?_
    refine r_getr (x := 50) dX6_dampen_6 flX6_21 sf49 (by decide) (by decide) rfl rfl ?_
    refine r_gi 3 dX6_dampen_9 flX6_111 sf50 (by decide) (by decide) rfl rfl ((hI.2.1 50 3 (by omega)).trans hn) ?_
    refine r_icmp_ge (tgt := 43) dX6_dampen_12 (by decide) (fun h12 => ?_) (fun h12 => by exfalso; omega)
    refine r_iload_n dX6_dampen_43 rfl ?_
    refine r_iret dX6_dampen_44 rfl ?_
    exact ⟨rfl, rfl, rfl⟩
  | succ m ih =>
    intro i hi
    have hI := dnS_w h (n := n) (k := k) i
    have e9 : (dnS M n k i).1 50 3 = (n : Int) := ((hI.2.1 50 3 (by omega)).trans hn)
    refine r_iload_n dX6_dampen_4 rfl ?_
    refine r_aload_n dX6_dampen_5 rfl (by decide) ?_
    refine r_getr (x := 50) dX6_dampen_6 flX6_21 sf49 (by decide) (by decide) rfl rfl ?_
    refine r_gi 3 dX6_dampen_9 flX6_111 sf50 (by decide) (by decide) rfl rfl ((hI.2.1 50 3 (by omega)).trans hn) ?_
    refine r_icmp_ge (tgt := 43) dX6_dampen_12 (by decide) (fun h12 => by exfalso; omega) (fun h12 => ?_)
    refine r_iload_n dX6_dampen_15 rfl ?_
    refine r_iload_n dX6_dampen_16 rfl ?_
    refine r_icmp_ge (tgt := 43) dX6_dampen_17 (by decide) (fun h17 => ?_) (fun h17 => ?_)
    · refine r_iload_n dX6_dampen_43 rfl ?_
      refine r_iret dX6_dampen_44 rfl ?_
      have e : dnS M n k n = dnS M n k i := by
        have e2 := dnS_e (M := M) (n := n) (k := k) (i := i) (by omega) (n - i)
        rwa [show n - i + i = n by omega] at e2
      rw [e]; exact ⟨rfl, rfl, rfl⟩
    · refine r_aload_n dX6_dampen_20 rfl (by decide) ?_
      refine r_iload_n dX6_dampen_21 rfl ?_
      refine r_cv1 dX6_dampen_22 clX6_169 sf49 (by decide) (by decide) rfl (by first | decide | omega) (Nat.le_of_ble_eq_true rfl) ((c_mayComeBack e9 hn12)) ⟨Nat.zero_le _, Nat.zero_le _⟩ (fun _ => ?_)
      refine r_if_eq (tgt := 37) dX6_dampen_25 (by decide) (fun h25 => ?_) (fun h25 => ?_)
      · try have h25 := bi_0.mp h25
        refine r_iinc dX6_dampen_37 rfl rfl (by decide) (w32_id (by omega)) st3 ?_
        refine r_goto (tgt := 4) dX6_dampen_40 (by decide) ?_
        first | exact V.al (by rw [show (dnS M n k (i + 1)) = _ from dnS_t ⟨by omega, by assumption⟩]; rfl) (V.cm rfl (show _ = (dnS M n k (i + 1)).1 by rw [dnS_t ⟨by omega, by assumption⟩]) (ih (i + 1) (by omega))) | exact V.al (by rw [show (dnS M n k (i + 1)) = _ from dnS_f (fun q => absurd q.2 (by assumption))]; rfl) (V.cm rfl (show _ = (dnS M n k (i + 1)).1 by rw [dnS_f (fun q => absurd q.2 (by assumption))]) (ih (i + 1) (by omega)))
      · try have h25 := bi_1.mp h25
        refine r_aload_n dX6_dampen_28 rfl (by decide) ?_
        refine r_iload_n dX6_dampen_29 rfl ?_
        refine r_iconst dX6_dampen_30 (by decide) ?_
        refine r_cw2 dX6_dampen_31 clX6_172 sf49 (by decide) (by decide) rfl (by first | decide | omega) (Nat.le_of_ble_eq_true rfl) ((c_comeBack (by omega) hI.1.b)) ⟨Nat.zero_le _, Nat.zero_le _⟩ ?_
        refine r_iinc dX6_dampen_34 rfl rfl (by decide) (w32_id (by omega)) st2 ?_
        refine r_iinc dX6_dampen_37 rfl rfl (by decide) (w32_id (by omega)) st3 ?_
        refine r_goto (tgt := 4) dX6_dampen_40 (by decide) ?_
        first | exact V.al (by rw [show (dnS M n k (i + 1)) = _ from dnS_t ⟨by omega, by assumption⟩]; rfl) (V.cm rfl (show _ = (dnS M n k (i + 1)).1 by rw [dnS_t ⟨by omega, by assumption⟩]) (ih (i + 1) (by omega))) | exact V.al (by rw [show (dnS M n k (i + 1)) = _ from dnS_f (fun q => absurd q.2 (by assumption))]; rfl) (V.cm rfl (show _ = (dnS M n k (i + 1)).1 by rw [dnS_f (fun q => absurd q.2 (by assumption))]) (ih (i + 1) (by omega)))
theorem c_dampen {x y z : Int} {M : Me} {k : Int} (h : CI M) {n : Nat} (hn : M 50 3 = (n : Int)) (hn12 : n ≤ 12) : Con kX6_dampen 3 0 0 [(1, 49), (0, k)] (Sf x y z) M (Ex (some (0, (dnS M n k n).2)) (Sf x y z) (dnS M n k n).1) := by
  refine Con.ofV (al := [(1, 49), (0, k), (9, 0), (9, 0)]) 2 (by decide) (Nat.le_of_ble_eq_true rfl) rfl ?_
  refine r_iconst dX6_dampen_0 (by decide) ?_
  refine r_istore_n dX6_dampen_1 rfl (by decide) st2 ?_
  refine r_iconst dX6_dampen_2 (by decide) ?_
  refine r_istore_n dX6_dampen_3 rfl (by decide) st3 ?_
  exact l_dampen h hn hn12 n 0 (by omega)
theorem c_dampStep {x y z : Int} {M : Me} {k : Int} (h : CI M) {n : Nat} (hn : M 50 3 = (n : Int)) (hn12 : n ≤ 12) : Con kX6_dampStep 4 0 0 [(1, 49), (0, k)] (Sf x y z) M (Ex (some (0, (dnS (keC M) n k n).2)) (Sf x y z) (dnS (keC M) n k n).1) := by
  refine Con.ofV (al := [(1, 49), (0, k)]) 0 (by decide) (Nat.le_of_ble_eq_true rfl) rfl ?_
  refine r_aload_n dX6_dampStep_0 rfl (by decide) ?_
  refine r_getr (x := 55) dX6_dampStep_1 flX6_28 sf49 (by decide) (by decide) rfl rfl ?_
  refine r_aload_n dX6_dampStep_4 rfl (by decide) ?_
  refine r_getr (x := 50) dX6_dampStep_5 flX6_21 sf49 (by decide) (by decide) rfl rfl ?_
  refine r_cw1 dX6_dampStep_8 clX6_136 sf55 (by decide) (by decide) rfl (by first | decide | omega) (Nat.le_of_ble_eq_true rfl) ((c_keep h.s h.f)) ⟨Nat.zero_le _, Nat.zero_le _⟩ ?_
  refine r_aload_n dX6_dampStep_11 rfl (by decide) ?_
  refine r_iload_n dX6_dampStep_12 rfl ?_
  refine r_cv1 dX6_dampStep_13 clX6_175 sf49 (by decide) (by decide) rfl (by first | decide | omega) (Nat.le_of_ble_eq_true rfl) ((c_dampen h.ke ((keC_o (by omega)).trans hn) hn12)) ⟨Nat.zero_le _, Nat.zero_le _⟩ (fun _ => ?_)
  refine r_iret dX6_dampStep_16 rfl ?_
  exact ⟨rfl, rfl, rfl⟩
theorem ite_c9 {p q : Prop} [Decidable p] [Decidable q] {a b c d : Int} (h : p ↔ q) (hac : a = c) (hbd : b = d) : (if p then a else b) = (if q then c else d) := by
  subst hac; subst hbd
  by_cases hp : p
  · rw [if_pos hp, if_pos (h.mp hp)]
  · rw [if_neg hp, if_neg (fun w => hp (h.mpr w))]
/-- what is there and not as deep as told deepens by one -/
def phD (M : Me) (n : Int) : Me := fun a j => if (a = 53 ∧ 0 ≤ j ∧ j < n) ∧ M 52 j = 0 ∧ M 53 j < M 211 j then M a j + 1 else M a j
theorem phD_o {M : Me} {n a j : Int} (h : ¬ (a = 53 ∧ 0 ≤ j ∧ j < n)) : phD M n a j = M a j := by unfold phD; rw [if_neg (fun q => h q.1)]
theorem phD_0 {M : Me} : phD M 0 = M := by funext a j; exact phD_o (by omega)
theorem phD_t {M : Me} {i : Nat} {v : Int} (h1 : M 52 (i : Int) = 0) (h2 : M 53 (i : Int) < M 211 (i : Int)) (hv : v = M 53 (i : Int) + 1) : up (phD M i) 53 (i : Int) v = phD M ((i + 1 : Nat) : Int) := by
  subst hv
  funext a j
  unfold up
  by_cases g0 : a = 53 ∧ j = (i : Int)
  · obtain ⟨rfl, rfl⟩ := g0
    rw [if_pos ⟨rfl, rfl⟩]
    unfold phD
    rw [if_pos ⟨by omega, h1, h2⟩]
  · rw [if_neg g0]
    unfold phD
    by_cases g : a = 53 ∧ 0 ≤ j ∧ j < (i : Int)
    · exact ite_c9 ⟨fun q => ⟨by omega, q.2⟩, fun q => ⟨g, q.2⟩⟩ rfl rfl
    · rw [if_neg (fun q => g q.1), if_neg (fun q => by omega)]
theorem phD_f {M : Me} {i : Nat} (h : ¬ (M 52 (i : Int) = 0 ∧ M 53 (i : Int) < M 211 (i : Int))) : phD M i = phD M ((i + 1 : Nat) : Int) := by
  funext a j
  unfold phD
  by_cases g : a = 53 ∧ 0 ≤ j ∧ j < (i : Int)
  · exact ite_c9 ⟨fun q => ⟨by omega, q.2⟩, fun q => ⟨g, q.2⟩⟩ rfl rfl
  · rw [if_neg (fun q => g q.1)]
    by_cases g2 : j = (i : Int)
    · subst g2; rw [if_neg (fun q => h q.2)]
    · rw [if_neg (fun q => by omega)]
def phC (M : Me) (n : Int) : Me := up (if M 50 0 % 10 = 9 then phD M n else M) 50 0 (M 50 0 + 1)
theorem phC_o {M : Me} {n a j : Int} (h : ¬ (a = 53 ∨ (a = 50 ∧ j = 0))) : phC M n a j = M a j := by
  unfold phC
  rw [up_ne (by omega)]
  split
  · exact phD_o (by omega)
  · rfl
theorem CI.ph {M : Me} (h : CI M) {n : Int} (hn : n ≤ M 50 3) (h9 : M 50 0 < 9999) : CI (phC M n) := by
  unfold CI
  have hh := h.h
  rw [phC_o (a := 50) (j := 1) (by omega), phC_o (a := 50) (j := 2) (by omega), phC_o (a := 50) (j := 3) (by omega), phC_o (a := 50) (j := 4) (by omega), phC_o (a := 49) (by omega), phC_o (a := 49) (by omega), phC_o (a := 55) (by omega), phC_o (a := 55) (by omega), show phC M n 50 0 = M 50 0 + 1 from up_eq ⟨rfl, rfl⟩]
  refine ⟨⟨by omega, h.x, h.p, h.c, h.b, h.e, h.t, h.s, h.f⟩, fun c g0 g1 => ?_, fun p g0 g1 => ?_, fun t g0 g1 => ?_⟩
  · have hc := h.2.1 c g0 g1
    rw [phC_o (a := 209) (by omega), phC_o (a := 214) (by omega), phC_o (a := 52) (by omega), phC_o (a := 210) (by omega), phC_o (a := 211) (by omega), phC_o (a := 212) (by omega), phC_o (a := 213) (by omega)]
    refine ⟨hc.1, hc.2.1, ?_, hc.2.2.2⟩
    unfold phC
    rw [up_ne (by omega)]
    split
    · unfold phD
      split <;> omega
    · exact hc.2.2.1
  · rw [phC_o (by omega), phC_o (by omega), phC_o (by omega)]; exact h.2.2.1 p g0 g1
  · rw [phC_o (by omega), phC_o (by omega)]; exact h.2.2.2 t g0 g1
theorem l_passHour {x y z : Int} {M : Me} (h : CI M) {n : Nat} (hn : M 50 3 = (n : Int)) (hn12 : n ≤ 12) (h9 : M 50 0 % 10 = 9) : ∀ (m i : Nat), m + i = n → V kX6_passHour 0 0 0 none (Ex none (Sf x y z) (phC M n)) 2 [(1, 49), (0, (i : Int))] [] (Sf x y z) (phD M i) 0 0 := by
  have hh := h.h
  have h3 := h.c
  intro m
  induction m with
  | zero =>
    intro i hi
    obtain rfl : i = n := by omega
    refine r_iload_n dX6_passHour_2 rfl ?_
    refine r_aload_n dX6_passHour_3 rfl (by decide) ?_
    refine r_getr (x := 50) dX6_passHour_4 flX6_21 sf49 (by decide) (by decide) rfl rfl ?_
    refine r_gi 3 dX6_passHour_7 flX6_111 sf50 (by decide) (by decide) rfl rfl ((phD_o (by omega)).trans hn) ?_
    refine r_icmp_ge (tgt := 77) dX6_passHour_10 (by decide) (fun h10 => ?_) (fun h10 => by exfalso; omega)
    refine r_aload_n dX6_passHour_77 rfl (by decide) ?_
    refine r_getr (x := 50) dX6_passHour_78 flX6_21 sf49 (by decide) (by decide) rfl rfl ?_
    refine r_dup dX6_passHour_81 (Nat.ne_of_beq_eq_false rfl) ?_
    refine r_gi 0 dX6_passHour_82 flX6_179 sf50 (by decide) (by decide) rfl rfl (phD_o (by omega)) ?_
    refine r_iconst dX6_passHour_85 (by decide) ?_
    refine r_iadd dX6_passHour_86 (w32_id (by omega)) ?_
    refine r_pi 0 dX6_passHour_87 fpX6_179 sf50 (by decide) (by decide) rfl rfl ?_
    refine r_ret0 dX6_passHour_90 rfl ?_
    exact ⟨rfl, rfl, by unfold phC; rw [if_pos h9]⟩
  | succ m ih =>
    intro i hi
    have hd := (h.2.1 i (by omega) (by omega)).2.2.1
    refine r_iload_n dX6_passHour_2 rfl ?_
    refine r_aload_n dX6_passHour_3 rfl (by decide) ?_
    refine r_getr (x := 50) dX6_passHour_4 flX6_21 sf49 (by decide) (by decide) rfl rfl ?_
    refine r_gi 3 dX6_passHour_7 flX6_111 sf50 (by decide) (by decide) rfl rfl ((phD_o (by omega)).trans hn) ?_
    refine r_icmp_ge (tgt := 77) dX6_passHour_10 (by decide) (fun h10 => by exfalso; omega) (fun h10 => ?_)
    refine r_aload_n dX6_passHour_13 rfl (by decide) ?_
    refine r_getr (x := 50) dX6_passHour_14 flX6_21 sf49 (by decide) (by decide) rfl rfl ?_
    refine r_gi 0 dX6_passHour_17 flX6_179 sf50 (by decide) (by decide) rfl rfl (phD_o (by omega)) ?_
    refine r_bipush dX6_passHour_20 (by decide) (by decide) ?_
    refine r_irem dX6_passHour_22 (by omega) (rmn (by omega)) ?_
    refine r_bipush dX6_passHour_23 (by decide) (by decide) ?_
    refine r_icmp_ne (tgt := 77) dX6_passHour_25 (by decide) (fun h25 => by exfalso; omega) (fun h25 => ?_)
    refine r_aload_n dX6_passHour_28 rfl (by decide) ?_
    refine r_getr (x := 50) dX6_passHour_29 flX6_21 sf49 (by decide) (by decide) rfl rfl ?_
    refine r_getr (x := 52) dX6_passHour_32 flX6_118 sf50 (by decide) (by decide) rfl rfl ?_
    refine r_iload_n dX6_passHour_35 rfl ?_
    refine r_iald dX6_passHour_36 sf52 (by decide) (by omega) (by omega) (by decide) (phD_o (by omega)) ?_
    refine r_if_ne (tgt := 71) dX6_passHour_37 (by decide) (fun h37 => ?_) (fun h37 => ?_)
    · refine V.cm rfl (phD_f (by omega)) ?_
      refine r_iinc dX6_passHour_71 rfl rfl (by decide) (w32_id (by omega)) st1 ?_
      refine r_goto (tgt := 2) dX6_passHour_74 (by decide) ?_
      exact ih (i + 1) (by omega)
    · refine r_aload_n dX6_passHour_40 rfl (by decide) ?_
      refine r_getr (x := 50) dX6_passHour_41 flX6_21 sf49 (by decide) (by decide) rfl rfl ?_
      refine r_getr (x := 53) dX6_passHour_44 flX6_130 sf50 (by decide) (by decide) rfl rfl ?_
      refine r_iload_n dX6_passHour_47 rfl ?_
      refine r_iald dX6_passHour_48 sf53 (by decide) (by omega) (by omega) (by decide) (phD_o (by omega)) ?_
      refine r_aload_n dX6_passHour_49 rfl (by decide) ?_
      refine r_getr (x := 211) dX6_passHour_50 flX6_45 sf49 (by decide) (by decide) rfl rfl ?_
      refine r_iload_n dX6_passHour_53 rfl ?_
      refine r_iald dX6_passHour_54 sf211 (by decide) (by omega) (by omega) (by decide) (phD_o (by omega)) ?_
      refine r_icmp_ge (tgt := 71) dX6_passHour_55 (by decide) (fun h55 => ?_) (fun h55 => ?_)
      · refine V.cm rfl (phD_f (by omega)) ?_
        refine r_iinc dX6_passHour_71 rfl rfl (by decide) (w32_id (by omega)) st1 ?_
        refine r_goto (tgt := 2) dX6_passHour_74 (by decide) ?_
        exact ih (i + 1) (by omega)
      · refine r_aload_n dX6_passHour_58 rfl (by decide) ?_
        refine r_getr (x := 50) dX6_passHour_59 flX6_21 sf49 (by decide) (by decide) rfl rfl ?_
        refine r_getr (x := 53) dX6_passHour_62 flX6_130 sf50 (by decide) (by decide) rfl rfl ?_
        refine r_iload_n dX6_passHour_65 rfl ?_
        refine r_dup2 dX6_passHour_66 (Nat.ne_of_beq_eq_false rfl) (Nat.ne_of_beq_eq_false rfl) ?_
        refine r_iald dX6_passHour_67 sf53 (by decide) (by omega) (by omega) (by decide) (phD_o (by omega)) ?_
        refine r_iconst dX6_passHour_68 (by decide) ?_
        refine r_iadd dX6_passHour_69 (w32_id (by omega)) ?_
        refine r_iast dX6_passHour_70 sf53 (by decide) (by omega) (by omega) (by decide) rfl ?_
        refine V.cm rfl (phD_t (by assumption) (by assumption) rfl) ?_
        refine r_iinc dX6_passHour_71 rfl rfl (by decide) (w32_id (by omega)) st1 ?_
        refine r_goto (tgt := 2) dX6_passHour_74 (by decide) ?_
        exact ih (i + 1) (by omega)
theorem c_passHour {x y z : Int} {M : Me} (h : CI M) {n : Nat} (hn : M 50 3 = (n : Int)) (hn12 : n ≤ 12) : Con kX6_passHour 0 0 0 [(1, 49)] (Sf x y z) M (Ex none (Sf x y z) (phC M n)) := by
  refine Con.ofV (al := [(1, 49), (9, 0)]) 1 (by decide) (Nat.le_of_ble_eq_true rfl) rfl ?_
  have hh := h.h
  refine r_iconst dX6_passHour_0 (by decide) ?_
  refine r_istore_n dX6_passHour_1 rfl (by decide) st1 ?_
  by_cases h9 : M 50 0 % 10 = 9
  · exact V.cm rfl phD_0.symm (l_passHour h hn hn12 h9 n 0 (by omega))
  · refine r_iload_n dX6_passHour_2 rfl ?_
    refine r_aload_n dX6_passHour_3 rfl (by decide) ?_
    refine r_getr (x := 50) dX6_passHour_4 flX6_21 sf49 (by decide) (by decide) rfl rfl ?_
    refine r_gi 3 dX6_passHour_7 flX6_111 sf50 (by decide) (by decide) rfl rfl hn ?_
    refine r_icmp_ge (tgt := 77) dX6_passHour_10 (by decide) (fun h10 => ?_) (fun h10 => ?_)
    · refine r_aload_n dX6_passHour_77 rfl (by decide) ?_
      refine r_getr (x := 50) dX6_passHour_78 flX6_21 sf49 (by decide) (by decide) rfl rfl ?_
      refine r_dup dX6_passHour_81 (Nat.ne_of_beq_eq_false rfl) ?_
      refine r_gi 0 dX6_passHour_82 flX6_179 sf50 (by decide) (by decide) rfl rfl rfl ?_
      refine r_iconst dX6_passHour_85 (by decide) ?_
      refine r_iadd dX6_passHour_86 (w32_id (by omega)) ?_
      refine r_pi 0 dX6_passHour_87 fpX6_179 sf50 (by decide) (by decide) rfl rfl ?_
      refine r_ret0 dX6_passHour_90 rfl ?_
      exact ⟨rfl, rfl, by unfold phC; rw [if_neg h9]⟩
    · refine r_aload_n dX6_passHour_13 rfl (by decide) ?_
      refine r_getr (x := 50) dX6_passHour_14 flX6_21 sf49 (by decide) (by decide) rfl rfl ?_
      refine r_gi 0 dX6_passHour_17 flX6_179 sf50 (by decide) (by decide) rfl rfl rfl ?_
      refine r_bipush dX6_passHour_20 (by decide) (by decide) ?_
      refine r_irem dX6_passHour_22 (by omega) (rmn (by omega)) ?_
      refine r_bipush dX6_passHour_23 (by decide) (by decide) ?_
      refine r_icmp_ne (tgt := 77) dX6_passHour_25 (by decide) (fun h25 => ?_) (fun h25 => by exfalso; omega)
      refine r_aload_n dX6_passHour_77 rfl (by decide) ?_
      refine r_getr (x := 50) dX6_passHour_78 flX6_21 sf49 (by decide) (by decide) rfl rfl ?_
      refine r_dup dX6_passHour_81 (Nat.ne_of_beq_eq_false rfl) ?_
      refine r_gi 0 dX6_passHour_82 flX6_179 sf50 (by decide) (by decide) rfl rfl rfl ?_
      refine r_iconst dX6_passHour_85 (by decide) ?_
      refine r_iadd dX6_passHour_86 (w32_id (by omega)) ?_
      refine r_pi 0 dX6_passHour_87 fpX6_179 sf50 (by decide) (by decide) rfl rfl ?_
      refine r_ret0 dX6_passHour_90 rfl ?_
      exact ⟨rfl, rfl, by unfold phC; rw [if_neg h9]⟩
def hsS (M : Me) (n : Int) : Nat → Me
  | 0 => M
  | i + 1 => phC (keC (hsS M n i)) n
theorem hsS_w {M : Me} (h : CI M) {n : Int} (hn : n = M 50 3) : ∀ i : Nat, M 50 0 + i ≤ 9999 → CI (hsS M n i) ∧ hsS M n i 50 0 = M 50 0 + i ∧ ∀ a j : Int, ¬ (a = 53 ∨ (a = 50 ∧ j = 0) ∨ a = 55 ∨ (57 ≤ a ∧ a ≤ 206)) → hsS M n i a j = M a j := by
  intro i
  induction i with
  | zero => intro _; exact ⟨h, (show M 50 0 = M 50 0 + ((0 : Nat) : Int) by omega), fun _ _ _ => rfl⟩
  | succ i ih =>
    intro hi
    obtain ⟨h1, h2, h3⟩ := ih (by omega)
    have e0 : keC (hsS M n i) 50 0 = M 50 0 + i := (keC_o (by omega)).trans h2
    have e3 : keC (hsS M n i) 50 3 = M 50 3 := (keC_o (by omega)).trans (h3 50 3 (by omega))
    refine ⟨h1.ke.ph (by omega) (by omega), ?_, fun a j q => (phC_o (by omega)).trans ((keC_o (by omega)).trans (h3 a j q))⟩
    show phC _ _ 50 0 = _
    unfold phC
    rw [up_eq ⟨rfl, rfl⟩, e0]
    omega
def hsN (M : Me) (k : Int) : Int := max 0 (min k (9999 - M 50 0))
def hsM (M : Me) (n : Int) (k : Int) : Me := hsS M n (hsN M k).toNat
theorem l_hourSteps {x y z : Int} {M : Me} {k : Int} (h : CI M) {n : Nat} (hn : M 50 3 = (n : Int)) (hn12 : n ≤ 12) {N : Nat} (hN : (N : Int) = hsN M k) : ∀ (m i : Nat), m + i = N → V kX6_hourSteps 0 0 3 none (Ex (some (0, (N : Int))) (Sf x y z) (hsS M n N)) 2 [(1, 49), (0, k), (0, (i : Int))] [] (Sf x y z) (hsS M n i) 0 0 := by
  have hh := h.h
  unfold hsN at hN
  intro m
  induction m with
  | zero =>
    intro i hi
    obtain rfl : i = N := by omega
    have hI := hsS_w h hn.symm i (by omega)
    refine r_iload_n dX6_hourSteps_2 rfl ?_
    refine r_iload_n dX6_hourSteps_3 rfl ?_
    refine r_icmp_ge (tgt := 41) dX6_hourSteps_4 (by decide) (fun h4 => ?_) (fun h4 => ?_)
    · refine r_iload_n dX6_hourSteps_41 rfl ?_
      refine r_iret dX6_hourSteps_42 rfl ?_
      exact ⟨rfl, rfl, rfl⟩
    · refine r_aload_n dX6_hourSteps_7 rfl (by decide) ?_
      refine r_getr (x := 50) dX6_hourSteps_8 flX6_21 sf49 (by decide) (by decide) rfl rfl ?_
      refine r_gi 0 dX6_hourSteps_11 flX6_179 sf50 (by decide) (by decide) rfl rfl hI.2.1 ?_
      refine r_sipush dX6_hourSteps_14 (by decide) (by decide) ?_
      refine r_icmp_ge (tgt := 41) dX6_hourSteps_17 (by decide) (fun h17 => ?_) (fun h17 => by exfalso; omega)
      refine r_iload_n dX6_hourSteps_41 rfl ?_
      refine r_iret dX6_hourSteps_42 rfl ?_
      exact ⟨rfl, rfl, rfl⟩
  | succ m ih =>
    intro i hi
    have hI := hsS_w h hn.symm i (by omega)
    have e3 : keC (hsS M n i) 50 3 = (n : Int) := (keC_o (by omega)).trans ((hI.2.2 50 3 (by omega)).trans hn)
    refine r_iload_n dX6_hourSteps_2 rfl ?_
    refine r_iload_n dX6_hourSteps_3 rfl ?_
    refine r_icmp_ge (tgt := 41) dX6_hourSteps_4 (by decide) (fun h4 => by exfalso; omega) (fun h4 => ?_)
    refine r_aload_n dX6_hourSteps_7 rfl (by decide) ?_
    refine r_getr (x := 50) dX6_hourSteps_8 flX6_21 sf49 (by decide) (by decide) rfl rfl ?_
    refine r_gi 0 dX6_hourSteps_11 flX6_179 sf50 (by decide) (by decide) rfl rfl hI.2.1 ?_
    refine r_sipush dX6_hourSteps_14 (by decide) (by decide) ?_
    refine r_icmp_ge (tgt := 41) dX6_hourSteps_17 (by decide) (fun h17 => by exfalso; omega) (fun h17 => ?_)
    refine r_aload_n dX6_hourSteps_20 rfl (by decide) ?_
    refine r_getr (x := 55) dX6_hourSteps_21 flX6_28 sf49 (by decide) (by decide) rfl rfl ?_
    refine r_aload_n dX6_hourSteps_24 rfl (by decide) ?_
    refine r_getr (x := 50) dX6_hourSteps_25 flX6_21 sf49 (by decide) (by decide) rfl rfl ?_
    refine r_cw1 dX6_hourSteps_28 clX6_136 sf55 (by decide) (by decide) rfl (by first | decide | omega) (Nat.le_of_ble_eq_true rfl) ((c_keep hI.1.s hI.1.f)) ⟨Nat.zero_le _, Nat.zero_le _⟩ ?_
    refine r_aload_n dX6_hourSteps_31 rfl (by decide) ?_
    refine r_cw0 dX6_hourSteps_32 clX6_182 sf49 (by decide) (by decide) rfl (by first | decide | omega) (Nat.le_of_ble_eq_true rfl) ((c_passHour hI.1.ke e3 hn12)) ⟨Nat.zero_le _, Nat.zero_le _⟩ ?_
    refine V.cm rfl (show _ = hsS M n (i + 1) from rfl) ?_
    refine r_iinc dX6_hourSteps_35 rfl rfl (by decide) (w32_id (by omega)) st2 ?_
    refine r_goto (tgt := 2) dX6_hourSteps_38 (by decide) ?_
    exact ih (i + 1) (by omega)
theorem c_hourSteps {x y z : Int} {M : Me} {k : Int} (h : CI M) {n : Nat} (hn : M 50 3 = (n : Int)) (hn12 : n ≤ 12) : Con kX6_hourSteps 3 0 0 [(1, 49), (0, k)] (Sf x y z) M (Ex (some (0, hsN M k)) (Sf x y z) (hsM M n k)) := by
  refine Con.ofV (al := [(1, 49), (0, k), (9, 0)]) 1 (by decide) (Nat.le_of_ble_eq_true rfl) rfl ?_
  refine r_iconst dX6_hourSteps_0 (by decide) ?_
  refine r_istore_n dX6_hourSteps_1 rfl (by decide) st2 ?_
  have h0 : 0 ≤ hsN M k := by unfold hsN; omega
  unfold hsM
  obtain ⟨N, hN⟩ := Int.eq_ofNat_of_zero_le h0
  rw [hN, Int.toNat_natCast]
  exact l_hourSteps h hn hn12 hN.symm N 0 (by omega)
