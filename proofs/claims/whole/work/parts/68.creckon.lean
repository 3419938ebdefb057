def dbC (M : Me) (k c : Int) : Int := if (0 ≤ c ∧ c < M 50 3) ∧ M 52 c = 0 then min (M 211 c) (M 53 c + (min (M 50 0 + k) 9999 / 10 - M 50 0 / 10)) else M 53 c
theorem c_depthBehind {x y z : Int} {M : Me} {k c : Int} (h : CI M) (hk : 1 ≤ k ∧ k ≤ 60) (hc : 0 ≤ c ∧ c < M 50 3) : Con kX5_depthBehind 2 0 0 [(1, 12), (1, 49), (0, k), (0, c)] (Sf x y z) M (Ex (some (0, dbC M k c)) (Sf x y z) M) := by
  refine Con.ofV (al := [(1, 12), (1, 49), (0, k), (0, c), (9, 0), (9, 0), (9, 0)]) 3 (by decide) (Nat.le_of_ble_eq_true rfl) rfl ?_
  have h3 := h.c
  have hh := h.h
  have hd := (h.2.1 c hc.1 hc.2).2.2.1
  refine r_aload_n dX5_depthBehind_0 rfl (by decide) ?_
  refine r_getr (x := 50) dX5_depthBehind_1 flX5_18 sf49 (by decide) (by decide) rfl rfl ?_
  refine r_getr (x := 53) dX5_depthBehind_4 flX5_24 sf50 (by decide) (by decide) rfl rfl ?_
  refine r_iload_n dX5_depthBehind_7 rfl ?_
  refine r_iald dX5_depthBehind_8 sf53 (by decide) (by omega) (by omega) (by decide) rfl ?_
  refine r_istore dX5_depthBehind_9 rfl (by decide) st4 ?_
  refine r_aload_n dX5_depthBehind_11 rfl (by decide) ?_
  refine r_getr (x := 50) dX5_depthBehind_12 flX5_18 sf49 (by decide) (by decide) rfl rfl ?_
  refine r_gi 0 dX5_depthBehind_15 flX5_29 sf50 (by decide) (by decide) rfl rfl rfl ?_
  refine r_iload_n dX5_depthBehind_18 rfl ?_
  refine r_iadd dX5_depthBehind_19 (w32_id (by omega)) ?_
  refine r_sipush dX5_depthBehind_20 (by decide) (by decide) ?_
  refine r_mmin dX5_depthBehind_23 clmX5_33 ma_min1 ii_Math ma_min2 (by decide) (Nat.le_of_ble_eq_true rfl) rfl ?_
  refine r_istore dX5_depthBehind_26 rfl (by decide) st5 ?_
  refine r_aload_n dX5_depthBehind_28 rfl (by decide) ?_
  refine r_iload_n dX5_depthBehind_29 rfl ?_
  refine r_cv1 dX5_depthBehind_30 clX5_39 sf49 (by decide) (by decide) rfl (by first | decide | omega) (Nat.le_of_ble_eq_true rfl) ((s_isThere h.c)) ⟨Nat.zero_le _, Nat.zero_le _⟩ (fun _ => ?_)
  refine r_if_ne (tgt := 39) dX5_depthBehind_33 (by decide) (fun h33 => ?_) (fun h33 => ?_)
  · try have h33 := bi_1.mp h33
    refine r_iload dX5_depthBehind_39 rfl ?_
    refine r_bipush dX5_depthBehind_41 (by decide) (by decide) ?_
    refine r_idiv dX5_depthBehind_43 (by omega) (dvn (by omega) (by omega) (by omega)) ?_
    refine r_aload_n dX5_depthBehind_44 rfl (by decide) ?_
    refine r_getr (x := 50) dX5_depthBehind_45 flX5_18 sf49 (by decide) (by decide) rfl rfl ?_
    refine r_gi 0 dX5_depthBehind_48 flX5_29 sf50 (by decide) (by decide) rfl rfl rfl ?_
    refine r_bipush dX5_depthBehind_51 (by decide) (by decide) ?_
    refine r_idiv dX5_depthBehind_53 (by omega) (dvn (by omega) (by omega) (by omega)) ?_
    refine r_isub dX5_depthBehind_54 (w32_id (by omega)) ?_
    refine r_istore dX5_depthBehind_55 rfl (by decide) st6 ?_
    refine r_aload_n dX5_depthBehind_57 rfl (by decide) ?_
    refine r_getr (x := 211) dX5_depthBehind_58 flX5_43 sf49 (by decide) (by decide) rfl rfl ?_
    refine r_iload_n dX5_depthBehind_61 rfl ?_
    refine r_iald dX5_depthBehind_62 sf211 (by decide) (by omega) (by omega) (by decide) rfl ?_
    refine r_iload dX5_depthBehind_63 rfl ?_
    refine r_iload dX5_depthBehind_65 rfl ?_
    refine r_iadd dX5_depthBehind_67 (w32_id (by omega)) ?_
    refine r_mmin dX5_depthBehind_68 clmX5_33 ma_min1 ii_Math ma_min2 (by decide) (Nat.le_of_ble_eq_true rfl) rfl ?_
    refine r_iret dX5_depthBehind_71 rfl ?_
    first | exact ⟨by rw [show dbC M k c = _ from if_pos (by assumption)], rfl, rfl⟩ | exact ⟨by rw [show dbC M k c = _ from if_neg (by assumption)], rfl, rfl⟩
  · try have h33 := bi_0.mp h33
    refine r_iload dX5_depthBehind_36 rfl ?_
    refine r_iret dX5_depthBehind_38 rfl ?_
    first | exact ⟨by rw [show dbC M k c = _ from if_pos (by assumption)], rfl, rfl⟩ | exact ⟨by rw [show dbC M k c = _ from if_neg (by assumption)], rfl, rfl⟩
theorem or32_0 {a : Int} (h : -2147483648 ≤ a ∧ a < 2147483648) : or32 a 0 = a := by
  refine tb_ext (or32_in _ _) h (fun j hj => ?_)
  rw [tb_or, tb_0, Bool.or_false]
theorem bset_in {p : Int → Prop} [DecidablePred p] {f : Int → Int} : ∀ n : Nat, -2147483648 ≤ bset p f n ∧ bset p f n < 2147483648 := by
  intro n
  cases n with
  | zero => exact (show -2147483648 ≤ (0 : Int) ∧ (0 : Int) < 2147483648 by decide)
  | succ n => exact or32_in _ _
theorem bset_n {p : Int → Prop} [DecidablePred p] {f : Int → Int} {i : Nat} (h : ¬ p i) : bset p f (i + 1) = bset p f i := (bset_f h).trans (or32_0 (bset_in i))
theorem l_tensOfC {x y z : Int} {M : Me} {p : Int} (h : CI M) {n : Nat} (hn : M 50 3 = (n : Int)) (hn12 : n ≤ 12) : ∀ (m i : Nat), m + i = n → V kX5_tensOfYears 0 0 2 none (Ex (some (0, bset (fun c : Int => M 209 c = p ∧ M 52 c = 0) (fun c : Int => M 210 c / 10) n)) (Sf x y z) M) 5 [(1, 12), (1, 49), (0, p), (0, bset (fun c : Int => M 209 c = p ∧ M 52 c = 0) (fun c : Int => M 210 c / 10) i), (0, (i : Int))] [] (Sf x y z) M 0 0 := by
  intro m
  induction m with
  | zero =>
    intro i hi
    obtain rfl : i = n := by omega
    refine r_iload dX5_tensOfYears_5 rfl ?_
    refine r_aload_n dX5_tensOfYears_7 rfl (by decide) ?_
    refine r_getr (x := 50) dX5_tensOfYears_8 flX5_18 sf49 (by decide) (by decide) rfl rfl ?_
    refine r_gi 3 dX5_tensOfYears_11 flX5_83 sf50 (by decide) (by decide) rfl rfl hn ?_
    refine r_icmp_ge (tgt := 58) dX5_tensOfYears_14 (by decide) (fun h14 => ?_) (fun h14 => by exfalso; omega)
    refine r_iload_n dX5_tensOfYears_58 rfl ?_
    refine r_iret dX5_tensOfYears_59 rfl ?_
    exact ⟨rfl, rfl, rfl⟩
  | succ m ih =>
    intro i hi
    have hc := (h.2.1 i (by omega) (by omega)).2.2.2.2.1
    refine r_iload dX5_tensOfYears_5 rfl ?_
    refine r_aload_n dX5_tensOfYears_7 rfl (by decide) ?_
    refine r_getr (x := 50) dX5_tensOfYears_8 flX5_18 sf49 (by decide) (by decide) rfl rfl ?_
    refine r_gi 3 dX5_tensOfYears_11 flX5_83 sf50 (by decide) (by decide) rfl rfl hn ?_
    refine r_icmp_ge (tgt := 58) dX5_tensOfYears_14 (by decide) (fun h14 => by exfalso; omega) (fun h14 => ?_)
    refine r_aload_n dX5_tensOfYears_17 rfl (by decide) ?_
    refine r_getr (x := 209) dX5_tensOfYears_18 flX5_113 sf49 (by decide) (by decide) rfl rfl ?_
    refine r_iload dX5_tensOfYears_21 rfl ?_
    refine r_iald dX5_tensOfYears_23 sf209 (by decide) (by omega) (by omega) (by decide) rfl ?_
    refine r_iload_n dX5_tensOfYears_24 rfl ?_
    refine r_icmp_ne (tgt := 52) dX5_tensOfYears_25 (by decide) (fun h25 => ?_) (fun h25 => ?_)
    · refine r_iinc dX5_tensOfYears_52 rfl rfl (by decide) (w32_id (by omega)) st4 ?_
      refine r_goto (tgt := 5) dX5_tensOfYears_55 (by decide) ?_
      first | exact V.al (by rw [bset_t (p := (fun c : Int => M 209 c = p ∧ M 52 c = 0)) (f := fun c : Int => M 210 c / 10) ⟨by assumption, by omega⟩]; rfl) (ih (i + 1) (by omega)) | exact V.al (by rw [bset_n (p := (fun c : Int => M 209 c = p ∧ M 52 c = 0)) (f := fun c : Int => M 210 c / 10) (fun q => by have := q.1; have := q.2; omega)]; rfl) (ih (i + 1) (by omega))
    · refine r_aload_n dX5_tensOfYears_28 rfl (by decide) ?_
      refine r_iload dX5_tensOfYears_29 rfl ?_
      refine r_cv1 dX5_tensOfYears_31 clX5_39 sf49 (by decide) (by decide) rfl (by first | decide | omega) (Nat.le_of_ble_eq_true rfl) ((s_isThere h.c)) ⟨Nat.zero_le _, Nat.zero_le _⟩ (fun _ => ?_)
      refine r_if_eq (tgt := 52) dX5_tensOfYears_34 (by decide) (fun h34 => ?_) (fun h34 => ?_)
      · try have h34 := bi_0.mp h34
        refine r_iinc dX5_tensOfYears_52 rfl rfl (by decide) (w32_id (by omega)) st4 ?_
        refine r_goto (tgt := 5) dX5_tensOfYears_55 (by decide) ?_
        first | exact V.al (by rw [bset_t (p := (fun c : Int => M 209 c = p ∧ M 52 c = 0)) (f := fun c : Int => M 210 c / 10) ⟨by assumption, by omega⟩]; rfl) (ih (i + 1) (by omega)) | exact V.al (by rw [bset_n (p := (fun c : Int => M 209 c = p ∧ M 52 c = 0)) (f := fun c : Int => M 210 c / 10) (fun q => by have := q.1; have := q.2; omega)]; rfl) (ih (i + 1) (by omega))
      · try have h34 := bi_1.mp h34
        refine r_iload_n dX5_tensOfYears_37 rfl ?_
        refine r_iconst dX5_tensOfYears_38 (by decide) ?_
        refine r_aload_n dX5_tensOfYears_39 rfl (by decide) ?_
        refine r_getr (x := 210) dX5_tensOfYears_40 flX5_92 sf49 (by decide) (by decide) rfl rfl ?_
        refine r_iload dX5_tensOfYears_43 rfl ?_
        refine r_iald dX5_tensOfYears_45 sf210 (by decide) (by omega) (by omega) (by decide) rfl ?_
        refine r_bipush dX5_tensOfYears_46 (by decide) (by decide) ?_
        refine r_idiv dX5_tensOfYears_48 (by omega) (dvn (by omega) (by omega) (by omega)) ?_
        refine r_ishl dX5_tensOfYears_49 rfl ?_
        refine r_ior dX5_tensOfYears_50 rfl ?_
        refine r_istore_n dX5_tensOfYears_51 rfl (by decide) st3 ?_
        refine r_iinc dX5_tensOfYears_52 rfl rfl (by decide) (w32_id (by omega)) st4 ?_
        refine r_goto (tgt := 5) dX5_tensOfYears_55 (by decide) ?_
        first | exact V.al (by rw [bset_t (p := (fun c : Int => M 209 c = p ∧ M 52 c = 0)) (f := fun c : Int => M 210 c / 10) ⟨by assumption, by omega⟩]; rfl) (ih (i + 1) (by omega)) | exact V.al (by rw [bset_n (p := (fun c : Int => M 209 c = p ∧ M 52 c = 0)) (f := fun c : Int => M 210 c / 10) (fun q => by have := q.1; have := q.2; omega)]; rfl) (ih (i + 1) (by omega))
theorem c_tensOf {x y z : Int} {M : Me} {p : Int} (h : CI M) {n : Nat} (hn : M 50 3 = (n : Int)) (hn12 : n ≤ 12) : Con kX5_tensOfYears 2 0 0 [(1, 12), (1, 49), (0, p)] (Sf x y z) M (Ex (some (0, bset (fun c : Int => M 209 c = p ∧ M 52 c = 0) (fun c : Int => M 210 c / 10) n)) (Sf x y z) M) := by
  refine Con.ofV (al := [(1, 12), (1, 49), (0, p), (9, 0), (9, 0)]) 2 (by decide) (Nat.le_of_ble_eq_true rfl) rfl ?_
  refine r_iconst dX5_tensOfYears_0 (by decide) ?_
  refine r_istore_n dX5_tensOfYears_1 rfl (by decide) st3 ?_
  refine r_iconst dX5_tensOfYears_2 (by decide) ?_
  refine r_istore dX5_tensOfYears_3 rfl (by decide) st4 ?_
  exact l_tensOfC h hn hn12 n 0 (by omega)
theorem l_eldestC {x y z : Int} {M : Me} {p : Int} (h : CI M) {n : Nat} (hn : M 50 3 = (n : Int)) (hn12 : n ≤ 12) : ∀ (m i : Nat), m + i = n → V kX5_eldestThere 0 0 2 none (Ex (some (0, fl1 (fun c f : Int => (M 209 c = p ∧ M 52 c = 0) ∧ (f = -1 ∨ M 210 c < M 210 f)) (fun c _ => c) (-1) n)) (Sf x y z) M) 9 [(1, 12), (1, 49), (0, p), (0, fl1 (fun c f : Int => (M 209 c = p ∧ M 52 c = 0) ∧ (f = -1 ∨ M 210 c < M 210 f)) (fun c _ => c) (-1) i), (0, (if fl1 (fun c f : Int => (M 209 c = p ∧ M 52 c = 0) ∧ (f = -1 ∨ M 210 c < M 210 f)) (fun c _ => c) (-1) i = -1 then 100 else M 210 (fl1 (fun c f : Int => (M 209 c = p ∧ M 52 c = 0) ∧ (f = -1 ∨ M 210 c < M 210 f)) (fun c _ => c) (-1) i))), (0, (i : Int))] [] (Sf x y z) M 0 0 := by
  intro m
  induction m with
  | zero =>
    intro i hi
    obtain rfl : i = n := by omega
    refine r_iload dX5_eldestThere_9 rfl ?_
    refine r_aload_n dX5_eldestThere_11 rfl (by decide) ?_
    refine r_getr (x := 50) dX5_eldestThere_12 flX5_18 sf49 (by decide) (by decide) rfl rfl ?_
    refine r_gi 3 dX5_eldestThere_15 flX5_83 sf50 (by decide) (by decide) rfl rfl hn ?_
    refine r_icmp_ge (tgt := 71) dX5_eldestThere_18 (by decide) (fun h18 => ?_) (fun h18 => by exfalso; omega)
    refine r_iload_n dX5_eldestThere_71 rfl ?_
    refine r_iret dX5_eldestThere_72 rfl ?_
    exact ⟨rfl, rfl, rfl⟩
  | succ m ih =>
    intro i hi
    have hc := (h.2.1 i (by omega) (by omega)).2.2.2.2.1
    have hf := fl1_lt (p := (fun c f : Int => (M 209 c = p ∧ M 52 c = 0) ∧ (f = -1 ∨ M 210 c < M 210 f))) i
    have ih := ih (i + 1) (by omega)
    have et := fl1_t (p := (fun c f : Int => (M 209 c = p ∧ M 52 c = 0) ∧ (f = -1 ∨ M 210 c < M 210 f))) (v := (fun c _ => c)) (s0 := -1) (i := i)
    have ef := fl1_f (p := (fun c f : Int => (M 209 c = p ∧ M 52 c = 0) ∧ (f = -1 ∨ M 210 c < M 210 f))) (v := (fun c _ => c)) (s0 := -1) (i := i)
    generalize fl1 (fun c f : Int => (M 209 c = p ∧ M 52 c = 0) ∧ (f = -1 ∨ M 210 c < M 210 f)) (fun c _ => c) (-1) i = e at hf et ef ⊢
    generalize fl1 (fun c f : Int => (M 209 c = p ∧ M 52 c = 0) ∧ (f = -1 ∨ M 210 c < M 210 f)) (fun c _ => c) (-1) (i + 1) = e2 at et ef ih
    try dsimp only at et ef
    refine r_iload dX5_eldestThere_9 rfl ?_
    refine r_aload_n dX5_eldestThere_11 rfl (by decide) ?_
    refine r_getr (x := 50) dX5_eldestThere_12 flX5_18 sf49 (by decide) (by decide) rfl rfl ?_
    refine r_gi 3 dX5_eldestThere_15 flX5_83 sf50 (by decide) (by decide) rfl rfl hn ?_
    refine r_icmp_ge (tgt := 71) dX5_eldestThere_18 (by decide) (fun h18 => by exfalso; omega) (fun h18 => ?_)
    refine r_aload_n dX5_eldestThere_21 rfl (by decide) ?_
    refine r_getr (x := 209) dX5_eldestThere_22 flX5_113 sf49 (by decide) (by decide) rfl rfl ?_
    refine r_iload dX5_eldestThere_25 rfl ?_
    refine r_iald dX5_eldestThere_27 sf209 (by decide) (by omega) (by omega) (by decide) rfl ?_
    refine r_iload_n dX5_eldestThere_28 rfl ?_
    refine r_icmp_ne (tgt := 65) dX5_eldestThere_29 (by decide) (fun h29 => ?_) (fun h29 => ?_)
    · refine r_iinc dX5_eldestThere_65 rfl rfl (by decide) (w32_id (by omega)) st5 ?_
      refine r_goto (tgt := 9) dX5_eldestThere_68 (by decide) ?_
      first | (rw [et ⟨⟨by assumption, by omega⟩, by split at h50 <;> omega⟩, if_neg (by omega)] at ih; exact ih) | (rw [ef (fun q => by first | omega | (split at h50 <;> omega))] at ih; exact ih)
    · refine r_aload_n dX5_eldestThere_32 rfl (by decide) ?_
      refine r_iload dX5_eldestThere_33 rfl ?_
      refine r_cv1 dX5_eldestThere_35 clX5_39 sf49 (by decide) (by decide) rfl (by first | decide | omega) (Nat.le_of_ble_eq_true rfl) ((s_isThere h.c)) ⟨Nat.zero_le _, Nat.zero_le _⟩ (fun _ => ?_)
      refine r_if_eq (tgt := 65) dX5_eldestThere_38 (by decide) (fun h38 => ?_) (fun h38 => ?_)
      · try have h38 := bi_0.mp h38
        refine r_iinc dX5_eldestThere_65 rfl rfl (by decide) (w32_id (by omega)) st5 ?_
        refine r_goto (tgt := 9) dX5_eldestThere_68 (by decide) ?_
        first | (rw [et ⟨⟨by assumption, by omega⟩, by split at h50 <;> omega⟩, if_neg (by omega)] at ih; exact ih) | (rw [ef (fun q => by first | omega | (split at h50 <;> omega))] at ih; exact ih)
      · try have h38 := bi_1.mp h38
        refine r_aload_n dX5_eldestThere_41 rfl (by decide) ?_
        refine r_getr (x := 210) dX5_eldestThere_42 flX5_92 sf49 (by decide) (by decide) rfl rfl ?_
        refine r_iload dX5_eldestThere_45 rfl ?_
        refine r_iald dX5_eldestThere_47 sf210 (by decide) (by omega) (by omega) (by decide) rfl ?_
        refine r_iload dX5_eldestThere_48 rfl ?_
        refine r_icmp_ge (tgt := 65) dX5_eldestThere_50 (by decide) (fun h50 => ?_) (fun h50 => ?_)
        · refine r_iinc dX5_eldestThere_65 rfl rfl (by decide) (w32_id (by omega)) st5 ?_
          refine r_goto (tgt := 9) dX5_eldestThere_68 (by decide) ?_
          first | (rw [et ⟨⟨by assumption, by omega⟩, by split at h50 <;> omega⟩, if_neg (by omega)] at ih; exact ih) | (rw [ef (fun q => by first | omega | (split at h50 <;> omega))] at ih; exact ih)
        · refine r_iload dX5_eldestThere_53 rfl ?_
          refine r_istore_n dX5_eldestThere_55 rfl (by decide) st3 ?_
          refine r_aload_n dX5_eldestThere_56 rfl (by decide) ?_
          refine r_getr (x := 210) dX5_eldestThere_57 flX5_92 sf49 (by decide) (by decide) rfl rfl ?_
          refine r_iload dX5_eldestThere_60 rfl ?_
          refine r_iald dX5_eldestThere_62 sf210 (by decide) (by omega) (by omega) (by decide) rfl ?_
          refine r_istore dX5_eldestThere_63 rfl (by decide) st4 ?_
          refine r_iinc dX5_eldestThere_65 rfl rfl (by decide) (w32_id (by omega)) st5 ?_
          refine r_goto (tgt := 9) dX5_eldestThere_68 (by decide) ?_
          first | (rw [et ⟨⟨by assumption, by omega⟩, by split at h50 <;> omega⟩, if_neg (by omega)] at ih; exact ih) | (rw [ef (fun q => by first | omega | (split at h50 <;> omega))] at ih; exact ih)
theorem c_eldestC {x y z : Int} {M : Me} {p : Int} (h : CI M) {n : Nat} (hn : M 50 3 = (n : Int)) (hn12 : n ≤ 12) : Con kX5_eldestThere 2 0 0 [(1, 12), (1, 49), (0, p)] (Sf x y z) M (Ex (some (0, fl1 (fun c f : Int => (M 209 c = p ∧ M 52 c = 0) ∧ (f = -1 ∨ M 210 c < M 210 f)) (fun c _ => c) (-1) n)) (Sf x y z) M) := by
  refine Con.ofV (al := [(1, 12), (1, 49), (0, p), (9, 0), (9, 0), (9, 0)]) 3 (by decide) (Nat.le_of_ble_eq_true rfl) rfl ?_
  refine r_iconst dX5_eldestThere_0 (by decide) ?_
  refine r_istore_n dX5_eldestThere_1 rfl (by decide) st3 ?_
  refine r_bipush dX5_eldestThere_2 (by decide) (by decide) ?_
  refine r_istore dX5_eldestThere_4 rfl (by decide) st4 ?_
  refine r_iconst dX5_eldestThere_6 (by decide) ?_
  refine r_istore dX5_eldestThere_7 rfl (by decide) st5 ?_
  exact l_eldestC h hn hn12 n 0 (by omega)
def wiC (M : Me) (n : Nat) (f w : Int) : Int := bset (fun c : Int => f ≤ M 210 c ∧ M 210 c < f + w) (fun c => c) n
theorem l_within {x y z : Int} {M : Me} {f w : Int} (hw : 0 ≤ f ∧ f ≤ 100 ∧ 0 ≤ w ∧ w ≤ 100) {n : Nat} (hn : M 50 3 = (n : Int)) (hn12 : n ≤ 12) : ∀ (m i : Nat) {l6 : AV}, m + i = n → V kX5_within 0 0 0 none (Ex (some (0, wiC M n f w)) (Sf x y z) M) 6 [(1, 12), (1, 49), (0, f), (0, w), (0, bset (fun c : Int => f ≤ M 210 c ∧ M 210 c < f + w) (fun c => c) i), (0, (i : Int)), (9, 0)] [] (Sf x y z) M 0 0 := by
  intro m
  induction m with
  | zero =>
    intro i l6 hi
    obtain rfl : i = n := by omega
    refine r_iload dX5_within_6 rfl ?_
    refine r_aload_n dX5_within_8 rfl (by decide) ?_
    refine r_getr (x := 50) dX5_within_9 flX5_18 sf49 (by decide) (by decide) rfl rfl ?_
    refine r_gi 3 dX5_within_12 flX5_83 sf50 (by decide) (by decide) rfl rfl hn ?_
    refine r_icmp_ge (tgt := 73) dX5_within_15 (by decide) (fun h15 => ?_) (fun h15 => by exfalso; omega)
    refine r_iload dX5_within_73 rfl ?_
    refine r_iret dX5_within_75 rfl ?_
    exact ⟨rfl, rfl, rfl⟩
  | succ m ih =>
    intro i l6 hi
    refine r_iload dX5_within_6 rfl ?_
    refine r_aload_n dX5_within_8 rfl (by decide) ?_
    refine r_getr (x := 50) dX5_within_9 flX5_18 sf49 (by decide) (by decide) rfl rfl ?_
    refine r_gi 3 dX5_within_12 flX5_83 sf50 (by decide) (by decide) rfl rfl hn ?_
    refine r_icmp_ge (tgt := 73) dX5_within_15 (by decide) (fun h15 => by exfalso; omega) (fun h15 => ?_)
    refine r_aload_n dX5_within_18 rfl (by decide) ?_
    refine r_getr (x := 210) dX5_within_19 flX5_92 sf49 (by decide) (by decide) rfl rfl ?_
    refine r_iload dX5_within_22 rfl ?_
    refine r_iald dX5_within_24 sf210 (by decide) (by omega) (by omega) (by decide) rfl ?_
    refine r_iload_n dX5_within_25 rfl ?_
    refine r_icmp_lt (tgt := 46) dX5_within_26 (by decide) (fun h26 => ?_) (fun h26 => ?_)
    · refine r_iconst dX5_within_46 (by decide) ?_
      refine r_istore dX5_within_47 rfl (by decide) st6 ?_
      refine r_iload dX5_within_49 rfl ?_
      refine r_iload dX5_within_51 rfl ?_
      refine r_if_eq (tgt := 63) dX5_within_53 (by decide) (fun h53 => ?_) (fun h53 => by exfalso; omega)
      refine r_iconst dX5_within_63 (by decide) ?_
      refine r_ior dX5_within_64 rfl ?_
      refine r_istore dX5_within_65 rfl (by decide) st4 ?_
      refine r_iinc dX5_within_67 rfl rfl (by decide) (w32_id (by omega)) st5 ?_
      refine r_goto (tgt := 6) dX5_within_70 (by decide) ?_
      refine wk6 ?_
      first | exact V.al (by rw [bset_t (p := (fun c : Int => f ≤ M 210 c ∧ M 210 c < f + w)) (f := fun c => c) ⟨by omega, by omega⟩]; rfl) (ih (i + 1) (l6 := (9, 0)) (by omega)) | exact V.al (by rw [bset_f (p := (fun c : Int => f ≤ M 210 c ∧ M 210 c < f + w)) (f := fun c => c) (fun q => by have := q.1; have := q.2; omega)]; rfl) (ih (i + 1) (l6 := (9, 0)) (by omega))
    · refine r_aload_n dX5_within_29 rfl (by decide) ?_
      refine r_getr (x := 210) dX5_within_30 flX5_92 sf49 (by decide) (by decide) rfl rfl ?_
      refine r_iload dX5_within_33 rfl ?_
      refine r_iald dX5_within_35 sf210 (by decide) (by omega) (by omega) (by decide) rfl ?_
      refine r_iload_n dX5_within_36 rfl ?_
      refine r_iload_n dX5_within_37 rfl ?_
      refine r_iadd dX5_within_38 (w32_id (by omega)) ?_
      refine r_icmp_ge (tgt := 46) dX5_within_39 (by decide) (fun h39 => ?_) (fun h39 => ?_)
      · refine r_iconst dX5_within_46 (by decide) ?_
        refine r_istore dX5_within_47 rfl (by decide) st6 ?_
        refine r_iload dX5_within_49 rfl ?_
        refine r_iload dX5_within_51 rfl ?_
        refine r_if_eq (tgt := 63) dX5_within_53 (by decide) (fun h53 => ?_) (fun h53 => by exfalso; omega)
        refine r_iconst dX5_within_63 (by decide) ?_
        refine r_ior dX5_within_64 rfl ?_
        refine r_istore dX5_within_65 rfl (by decide) st4 ?_
        refine r_iinc dX5_within_67 rfl rfl (by decide) (w32_id (by omega)) st5 ?_
        refine r_goto (tgt := 6) dX5_within_70 (by decide) ?_
        refine wk6 ?_
        first | exact V.al (by rw [bset_t (p := (fun c : Int => f ≤ M 210 c ∧ M 210 c < f + w)) (f := fun c => c) ⟨by omega, by omega⟩]; rfl) (ih (i + 1) (l6 := (9, 0)) (by omega)) | exact V.al (by rw [bset_f (p := (fun c : Int => f ≤ M 210 c ∧ M 210 c < f + w)) (f := fun c => c) (fun q => by have := q.1; have := q.2; omega)]; rfl) (ih (i + 1) (l6 := (9, 0)) (by omega))
      · refine r_iconst dX5_within_42 (by decide) ?_
        refine r_goto (tgt := 47) dX5_within_43 (by decide) ?_
        refine r_istore dX5_within_47 rfl (by decide) st6 ?_
        refine r_iload dX5_within_49 rfl ?_
        refine r_iload dX5_within_51 rfl ?_
        refine r_if_eq (tgt := 63) dX5_within_53 (by decide) (fun h53 => by exfalso; omega) (fun h53 => ?_)
        refine r_iconst dX5_within_56 (by decide) ?_
        refine r_iload dX5_within_57 rfl ?_
        refine r_ishl dX5_within_59 rfl ?_
        refine r_goto (tgt := 64) dX5_within_60 (by decide) ?_
        refine r_ior dX5_within_64 rfl ?_
        refine r_istore dX5_within_65 rfl (by decide) st4 ?_
        refine r_iinc dX5_within_67 rfl rfl (by decide) (w32_id (by omega)) st5 ?_
        refine r_goto (tgt := 6) dX5_within_70 (by decide) ?_
        refine wk6 ?_
        first | exact V.al (by rw [bset_t (p := (fun c : Int => f ≤ M 210 c ∧ M 210 c < f + w)) (f := fun c => c) ⟨by omega, by omega⟩]; rfl) (ih (i + 1) (l6 := (9, 0)) (by omega)) | exact V.al (by rw [bset_f (p := (fun c : Int => f ≤ M 210 c ∧ M 210 c < f + w)) (f := fun c => c) (fun q => by have := q.1; have := q.2; omega)]; rfl) (ih (i + 1) (l6 := (9, 0)) (by omega))
theorem c_within {x y z : Int} {M : Me} {f w : Int} (hw : 0 ≤ f ∧ f ≤ 100 ∧ 0 ≤ w ∧ w ≤ 100) {n : Nat} (hn : M 50 3 = (n : Int)) (hn12 : n ≤ 12) : Con kX5_within 0 0 0 [(1, 12), (1, 49), (0, f), (0, w)] (Sf x y z) M (Ex (some (0, wiC M n f w)) (Sf x y z) M) := by
  refine Con.ofV (al := [(1, 12), (1, 49), (0, f), (0, w), (9, 0), (9, 0), (9, 0)]) 3 (by decide) (Nat.le_of_ble_eq_true rfl) rfl ?_
  refine r_iconst dX5_within_0 (by decide) ?_
  refine r_istore dX5_within_1 rfl (by decide) st4 ?_
  refine r_iconst dX5_within_3 (by decide) ?_
  refine r_istore dX5_within_4 rfl (by decide) st5 ?_
  exact l_within hw hn hn12 n 0 (l6 := (9, 0)) (by omega)
def owC (M : Me) (n : Nat) (p : Int) : Int := and32 (bset (fun c : Int => M 209 c = p) (fun c => c) n) (bset (fun c : Int => M 52 c = 0) (fun c => c) n)
/-- the longest span so far, and the one that runs -/
def lsC (M : Me) (n : Nat) (p : Int) : Nat → Int × Int
  | 0 => (0, 0)
  | y + 1 => (max (lsC M n p y).1 (if and32 (owC M n p) (wiC M n y 1) = 0 then (lsC M n p y).2 + 1 else 0), if and32 (owC M n p) (wiC M n y 1) = 0 then (lsC M n p y).2 + 1 else 0)
theorem lsC_t {M : Me} {n : Nat} {p : Int} {y : Nat} (h : and32 (owC M n p) (wiC M n y 1) = 0) : lsC M n p (y + 1) = (max (lsC M n p y).1 ((lsC M n p y).2 + 1), (lsC M n p y).2 + 1) := by
  conv => lhs; unfold lsC
  rw [if_pos h]
theorem lsC_f {M : Me} {n : Nat} {p : Int} {y : Nat} (h : and32 (owC M n p) (wiC M n y 1) ≠ 0) : lsC M n p (y + 1) = (max (lsC M n p y).1 0, 0) := by
  conv => lhs; unfold lsC
  rw [if_neg h]
theorem lsC_b {M : Me} {n : Nat} {p : Int} : ∀ y : Nat, 0 ≤ (lsC M n p y).2 ∧ (lsC M n p y).2 ≤ y := by
  intro y
  induction y with
  | zero => exact (show (0 : Int) ≤ 0 ∧ (0 : Int) ≤ ((0 : Nat) : Int) by omega)
  | succ y ih =>
    by_cases q : and32 (owC M n p) (wiC M n y 1) = 0
    · rw [lsC_t q]; show 0 ≤ _ + 1 ∧ _ + 1 ≤ _; omega
    · rw [lsC_f q]; show (0 : Int) ≤ 0 ∧ (0 : Int) ≤ _; omega
theorem l_longest {x y z : Int} {M : Me} {p : Int} {n : Nat} (hn : M 50 3 = (n : Int)) (hn12 : n ≤ 12) : ∀ (m i : Nat), m + i = 100 → V kX5_longestSpan 0 0 2 none (Ex (some (0, (lsC M n p 100).1)) (Sf x y z) M) 20 [(1, 12), (1, 49), (0, p), (0, owC M n p), (0, (lsC M n p i).1), (0, (lsC M n p i).2), (0, (i : Int))] [] (Sf x y z) M 0 0 := by
  intro m
  induction m with
  | zero =>
    intro i hi
    obtain rfl : i = 100 := by omega
    refine r_iload dX5_longestSpan_20 rfl ?_
    refine r_bipush dX5_longestSpan_22 (by decide) (by decide) ?_
    refine r_icmp_gt (tgt := 65) dX5_longestSpan_24 (by decide) (fun h24 => ?_) (fun h24 => by exfalso; omega)
    refine r_iload dX5_longestSpan_65 rfl ?_
    refine r_iret dX5_longestSpan_67 rfl ?_
    exact ⟨rfl, rfl, rfl⟩
  | succ m ih =>
    intro i hi
    have hb := lsC_b (M := M) (n := n) (p := p) i
    refine r_iload dX5_longestSpan_20 rfl ?_
    refine r_bipush dX5_longestSpan_22 (by decide) (by decide) ?_
    refine r_icmp_gt (tgt := 65) dX5_longestSpan_24 (by decide) (fun h24 => by exfalso; omega) (fun h24 => ?_)
    refine r_iload_n dX5_longestSpan_27 rfl ?_
    refine r_aload_n dX5_longestSpan_28 rfl (by decide) ?_
    refine r_aload_n dX5_longestSpan_29 rfl (by decide) ?_
    refine r_iload dX5_longestSpan_30 rfl ?_
    refine r_iconst dX5_longestSpan_32 (by decide) ?_
    refine r_cv3 dX5_longestSpan_33 clX5_95 sf12 (by decide) (by decide) rfl (by first | decide | omega) (Nat.le_of_ble_eq_true rfl) ((c_within (by omega) hn hn12)) ⟨Nat.zero_le _, Nat.zero_le _⟩ (fun _ => ?_)
    refine r_iand dX5_longestSpan_36 rfl ?_
    refine r_if_ne (tgt := 47) dX5_longestSpan_37 (by decide) (fun h37 => ?_) (fun h37 => ?_)
    · refine r_iconst dX5_longestSpan_47 (by decide) ?_
      refine r_istore dX5_longestSpan_48 rfl (by decide) st5 ?_
      refine r_iload dX5_longestSpan_50 rfl ?_
      refine r_iload dX5_longestSpan_52 rfl ?_
      refine r_mmax dX5_longestSpan_54 clmX5_102 ma_max1 ii_Math ma_max2 (by decide) (Nat.le_of_ble_eq_true rfl) rfl ?_
      refine r_istore dX5_longestSpan_57 rfl (by decide) st4 ?_
      refine r_iinc dX5_longestSpan_59 rfl rfl (by decide) (w32_id (by omega)) st6 ?_
      refine r_goto (tgt := 20) dX5_longestSpan_62 (by decide) ?_
      first | exact V.al (by rw [lsC_t (by assumption)]; rfl) (ih (i + 1) (by omega)) | exact V.al (by rw [lsC_f (by assumption)]; rfl) (ih (i + 1) (by omega))
    · refine r_iload dX5_longestSpan_40 rfl ?_
      refine r_iconst dX5_longestSpan_42 (by decide) ?_
      refine r_iadd dX5_longestSpan_43 (w32_id (by omega)) ?_
      refine r_goto (tgt := 48) dX5_longestSpan_44 (by decide) ?_
      refine r_istore dX5_longestSpan_48 rfl (by decide) st5 ?_
      refine r_iload dX5_longestSpan_50 rfl ?_
      refine r_iload dX5_longestSpan_52 rfl ?_
      refine r_mmax dX5_longestSpan_54 clmX5_102 ma_max1 ii_Math ma_max2 (by decide) (Nat.le_of_ble_eq_true rfl) rfl ?_
      refine r_istore dX5_longestSpan_57 rfl (by decide) st4 ?_
      refine r_iinc dX5_longestSpan_59 rfl rfl (by decide) (w32_id (by omega)) st6 ?_
      refine r_goto (tgt := 20) dX5_longestSpan_62 (by decide) ?_
      first | exact V.al (by rw [lsC_t (by assumption)]; rfl) (ih (i + 1) (by omega)) | exact V.al (by rw [lsC_f (by assumption)]; rfl) (ih (i + 1) (by omega))
theorem c_longest {x y z : Int} {M : Me} {p : Int} {n : Nat} (hn : M 50 3 = (n : Int)) (hn12 : n ≤ 12) : Con kX5_longestSpan 2 0 0 [(1, 12), (1, 49), (0, p)] (Sf x y z) M (Ex (some (0, (lsC M n p 100).1)) (Sf x y z) M) := by
  refine Con.ofV (al := [(1, 12), (1, 49), (0, p), (9, 0), (9, 0), (9, 0), (9, 0)]) 4 (by decide) (Nat.le_of_ble_eq_true rfl) rfl ?_
  refine r_aload_n dX5_longestSpan_0 rfl (by decide) ?_
  refine r_iload_n dX5_longestSpan_1 rfl ?_
  refine r_cv1 dX5_longestSpan_2 clX5_89 sf49 (by decide) (by decide) rfl (by first | decide | omega) (Nat.le_of_ble_eq_true rfl) ((s_creasesOf hn hn12)) ⟨Nat.zero_le _, Nat.zero_le _⟩ (fun _ => ?_)
  refine r_aload_n dX5_longestSpan_5 rfl (by decide) ?_
  refine r_cv0 dX5_longestSpan_6 clX5_46 sf49 (by decide) (by decide) rfl (by first | decide | omega) (Nat.le_of_ble_eq_true rfl) ((s_allThere hn hn12)) ⟨Nat.zero_le _, Nat.zero_le _⟩ (fun _ => ?_)
  refine r_iand dX5_longestSpan_9 rfl ?_
  refine r_istore_n dX5_longestSpan_10 rfl (by decide) st3 ?_
  refine r_iconst dX5_longestSpan_11 (by decide) ?_
  refine r_istore dX5_longestSpan_12 rfl (by decide) st4 ?_
  refine r_iconst dX5_longestSpan_14 (by decide) ?_
  refine r_istore dX5_longestSpan_15 rfl (by decide) st5 ?_
  refine r_iconst dX5_longestSpan_17 (by decide) ?_
  refine r_istore dX5_longestSpan_18 rfl (by decide) st6 ?_
  exact l_longest hn hn12 100 0 (by omega)
