theorem l_befellC {x y z : Int} {M : Me} (h : CI M) {c u : Int} {nb : Nat} (hnb : M 50 4 = (nb : Int)) (hb30 : nb ≤ 30) : ∀ (m i : Nat), m + i = nb → V kX10_befell 0 0 1 none (Ex (some (0, isum (fun i : Int => (c = -1 ∨ enC M i 1 = c) ∧ enC M i 2 = u) (fun _ => 1) nb)) (Sf x y z) M) 33 [(1, 0), (0, c), (0, u), (0, isum (fun i : Int => (c = -1 ∨ enC M i 1 = c) ∧ enC M i 2 = u) (fun _ => 1) i), (0, (i : Int)), (9, 0)] [] (Sf x y z) M 0 0 := by
  have h4 := h.b
  intro m
  induction m with
  | zero =>
    intro i hi
    obtain rfl : i = nb := by omega
    refine r_iload dX10_befell_33 rfl ?_
    refine r_aload_n dX10_befell_35 rfl (by decide) ?_
    refine r_getr (x := 49) dX10_befell_36 flX10_52 sf0 (by decide) (by decide) rfl rfl ?_
    refine r_getr (x := 50) dX10_befell_39 flX10_105 sf49 (by decide) (by decide) rfl rfl ?_
    refine r_gi 4 dX10_befell_42 flX10_200 sf50 (by decide) (by decide) rfl rfl hnb ?_
    refine r_icmp_ge (tgt := 113) dX10_befell_45 (by decide) (fun h45 => ?_) (fun h45 => by exfalso; omega)
    refine r_iload_n dX10_befell_113 rfl ?_
    refine r_iret dX10_befell_114 rfl ?_
    exact ⟨rfl, rfl, rfl⟩
  | succ m ih =>
    intro i hi
    have hb := isum_b (p := (fun i : Int => (c = -1 ∨ enC M i 1 = c) ∧ enC M i 2 = u)) (f := fun _ => 1) (b := 1) (n := i) (by decide) (fun j hj => by (try dsimp only); omega)
    refine r_iload dX10_befell_33 rfl ?_
    refine r_aload_n dX10_befell_35 rfl (by decide) ?_
    refine r_getr (x := 49) dX10_befell_36 flX10_52 sf0 (by decide) (by decide) rfl rfl ?_
    refine r_getr (x := 50) dX10_befell_39 flX10_105 sf49 (by decide) (by decide) rfl rfl ?_
    refine r_gi 4 dX10_befell_42 flX10_200 sf50 (by decide) (by decide) rfl rfl hnb ?_
    refine r_icmp_ge (tgt := 113) dX10_befell_45 (by decide) (fun h45 => by exfalso; omega) (fun h45 => ?_)
    refine r_iload_n dX10_befell_48 rfl ?_
    refine r_iconst dX10_befell_49 (by decide) ?_
    refine r_icmp_eq (tgt := 70) dX10_befell_50 (by decide) (fun h50 => ?_) (fun h50 => ?_)
    · refine r_iconst dX10_befell_70 (by decide) ?_
      refine r_goto (tgt := 75) dX10_befell_71 (by decide) ?_
      refine r_istore dX10_befell_75 rfl (by decide) st5 ?_
      refine r_iload_n dX10_befell_77 rfl ?_
      refine r_iload dX10_befell_78 rfl ?_
      refine r_if_eq (tgt := 104) dX10_befell_80 (by decide) (fun h80 => ?_) (fun h80 => ?_)
      · try have h80 := bi_0.mp h80
        refine r_iconst dX10_befell_104 (by decide) ?_
        refine r_iadd dX10_befell_105 (w32_id (by omega)) ?_
        refine r_istore_n dX10_befell_106 rfl (by decide) st3 ?_
        refine r_iinc dX10_befell_107 rfl rfl (by decide) (w32_id (by omega)) st4 ?_
        refine r_goto (tgt := 33) dX10_befell_110 (by decide) ?_
        first | exact V.al (by rw [isum_t (p := (fun i : Int => (c = -1 ∨ enC M i 1 = c) ∧ enC M i 2 = u)) (f := fun _ => 1) (by omega)]; rfl) (wk5 (ih (i + 1) (by omega))) | exact V.al (by rw [isum_f (p := (fun i : Int => (c = -1 ∨ enC M i 1 = c) ∧ enC M i 2 = u)) (f := fun _ => 1) (by omega)]; rfl) (wk5 (ih (i + 1) (by omega)))
      · try have h80 := bi_1.mp h80
        refine r_aload_n dX10_befell_83 rfl (by decide) ?_
        refine r_getr (x := 49) dX10_befell_84 flX10_52 sf0 (by decide) (by decide) rfl rfl ?_
        refine r_getr (x := 50) dX10_befell_87 flX10_105 sf49 (by decide) (by decide) rfl rfl ?_
        refine r_iload dX10_befell_90 rfl ?_
        refine r_iconst dX10_befell_92 (by decide) ?_
        refine r_cv2 dX10_befell_93 clX10_203 sf50 (by decide) (by decide) rfl (by first | decide | omega) (Nat.le_of_ble_eq_true rfl) ((c_entry h4)) ⟨Nat.zero_le _, Nat.zero_le _⟩ (fun _ => ?_)
        refine r_iload_n dX10_befell_96 rfl ?_
        refine r_icmp_ne (tgt := 104) dX10_befell_97 (by decide) (fun h97 => ?_) (fun h97 => ?_)
        · refine r_iconst dX10_befell_104 (by decide) ?_
          refine r_iadd dX10_befell_105 (w32_id (by omega)) ?_
          refine r_istore_n dX10_befell_106 rfl (by decide) st3 ?_
          refine r_iinc dX10_befell_107 rfl rfl (by decide) (w32_id (by omega)) st4 ?_
          refine r_goto (tgt := 33) dX10_befell_110 (by decide) ?_
          first | exact V.al (by rw [isum_t (p := (fun i : Int => (c = -1 ∨ enC M i 1 = c) ∧ enC M i 2 = u)) (f := fun _ => 1) (by omega)]; rfl) (wk5 (ih (i + 1) (by omega))) | exact V.al (by rw [isum_f (p := (fun i : Int => (c = -1 ∨ enC M i 1 = c) ∧ enC M i 2 = u)) (f := fun _ => 1) (by omega)]; rfl) (wk5 (ih (i + 1) (by omega)))
        · refine r_iconst dX10_befell_100 (by decide) ?_
          refine r_goto (tgt := 105) dX10_befell_101 (by decide) ?_
          refine r_iadd dX10_befell_105 (w32_id (by omega)) ?_
          refine r_istore_n dX10_befell_106 rfl (by decide) st3 ?_
          refine r_iinc dX10_befell_107 rfl rfl (by decide) (w32_id (by omega)) st4 ?_
          refine r_goto (tgt := 33) dX10_befell_110 (by decide) ?_
          first | exact V.al (by rw [isum_t (p := (fun i : Int => (c = -1 ∨ enC M i 1 = c) ∧ enC M i 2 = u)) (f := fun _ => 1) (by omega)]; rfl) (wk5 (ih (i + 1) (by omega))) | exact V.al (by rw [isum_f (p := (fun i : Int => (c = -1 ∨ enC M i 1 = c) ∧ enC M i 2 = u)) (f := fun _ => 1) (by omega)]; rfl) (wk5 (ih (i + 1) (by omega)))
    · refine r_aload_n dX10_befell_53 rfl (by decide) ?_
      refine r_getr (x := 49) dX10_befell_54 flX10_52 sf0 (by decide) (by decide) rfl rfl ?_
      refine r_getr (x := 50) dX10_befell_57 flX10_105 sf49 (by decide) (by decide) rfl rfl ?_
      refine r_iload dX10_befell_60 rfl ?_
      refine r_iconst dX10_befell_62 (by decide) ?_
      refine r_cv2 dX10_befell_63 clX10_203 sf50 (by decide) (by decide) rfl (by first | decide | omega) (Nat.le_of_ble_eq_true rfl) ((c_entry h4)) ⟨Nat.zero_le _, Nat.zero_le _⟩ (fun _ => ?_)
      refine r_iload_n dX10_befell_66 rfl ?_
      refine r_icmp_ne (tgt := 74) dX10_befell_67 (by decide) (fun h67 => ?_) (fun h67 => ?_)
      · refine r_iconst dX10_befell_74 (by decide) ?_
        refine r_istore dX10_befell_75 rfl (by decide) st5 ?_
        refine r_iload_n dX10_befell_77 rfl ?_
        refine r_iload dX10_befell_78 rfl ?_
        refine r_if_eq (tgt := 104) dX10_befell_80 (by decide) (fun h80 => ?_) (fun h80 => ?_)
        · try have h80 := bi_0.mp h80
          refine r_iconst dX10_befell_104 (by decide) ?_
          refine r_iadd dX10_befell_105 (w32_id (by omega)) ?_
          refine r_istore_n dX10_befell_106 rfl (by decide) st3 ?_
          refine r_iinc dX10_befell_107 rfl rfl (by decide) (w32_id (by omega)) st4 ?_
          refine r_goto (tgt := 33) dX10_befell_110 (by decide) ?_
          first | exact V.al (by rw [isum_t (p := (fun i : Int => (c = -1 ∨ enC M i 1 = c) ∧ enC M i 2 = u)) (f := fun _ => 1) (by omega)]; rfl) (wk5 (ih (i + 1) (by omega))) | exact V.al (by rw [isum_f (p := (fun i : Int => (c = -1 ∨ enC M i 1 = c) ∧ enC M i 2 = u)) (f := fun _ => 1) (by omega)]; rfl) (wk5 (ih (i + 1) (by omega)))
        · try have h80 := bi_1.mp h80
          refine r_aload_n dX10_befell_83 rfl (by decide) ?_
          refine r_getr (x := 49) dX10_befell_84 flX10_52 sf0 (by decide) (by decide) rfl rfl ?_
          refine r_getr (x := 50) dX10_befell_87 flX10_105 sf49 (by decide) (by decide) rfl rfl ?_
          refine r_iload dX10_befell_90 rfl ?_
          refine r_iconst dX10_befell_92 (by decide) ?_
          refine r_cv2 dX10_befell_93 clX10_203 sf50 (by decide) (by decide) rfl (by first | decide | omega) (Nat.le_of_ble_eq_true rfl) ((c_entry h4)) ⟨Nat.zero_le _, Nat.zero_le _⟩ (fun _ => ?_)
          refine r_iload_n dX10_befell_96 rfl ?_
          refine r_icmp_ne (tgt := 104) dX10_befell_97 (by decide) (fun h97 => ?_) (fun h97 => ?_)
          · refine r_iconst dX10_befell_104 (by decide) ?_
            refine r_iadd dX10_befell_105 (w32_id (by omega)) ?_
            refine r_istore_n dX10_befell_106 rfl (by decide) st3 ?_
            refine r_iinc dX10_befell_107 rfl rfl (by decide) (w32_id (by omega)) st4 ?_
            refine r_goto (tgt := 33) dX10_befell_110 (by decide) ?_
            first | exact V.al (by rw [isum_t (p := (fun i : Int => (c = -1 ∨ enC M i 1 = c) ∧ enC M i 2 = u)) (f := fun _ => 1) (by omega)]; rfl) (wk5 (ih (i + 1) (by omega))) | exact V.al (by rw [isum_f (p := (fun i : Int => (c = -1 ∨ enC M i 1 = c) ∧ enC M i 2 = u)) (f := fun _ => 1) (by omega)]; rfl) (wk5 (ih (i + 1) (by omega)))
          · refine r_iconst dX10_befell_100 (by decide) ?_
            refine r_goto (tgt := 105) dX10_befell_101 (by decide) ?_
            refine r_iadd dX10_befell_105 (w32_id (by omega)) ?_
            refine r_istore_n dX10_befell_106 rfl (by decide) st3 ?_
            refine r_iinc dX10_befell_107 rfl rfl (by decide) (w32_id (by omega)) st4 ?_
            refine r_goto (tgt := 33) dX10_befell_110 (by decide) ?_
            first | exact V.al (by rw [isum_t (p := (fun i : Int => (c = -1 ∨ enC M i 1 = c) ∧ enC M i 2 = u)) (f := fun _ => 1) (by omega)]; rfl) (wk5 (ih (i + 1) (by omega))) | exact V.al (by rw [isum_f (p := (fun i : Int => (c = -1 ∨ enC M i 1 = c) ∧ enC M i 2 = u)) (f := fun _ => 1) (by omega)]; rfl) (wk5 (ih (i + 1) (by omega)))
      · refine r_iconst dX10_befell_70 (by decide) ?_
        refine r_goto (tgt := 75) dX10_befell_71 (by decide) ?_
        refine r_istore dX10_befell_75 rfl (by decide) st5 ?_
        refine r_iload_n dX10_befell_77 rfl ?_
        refine r_iload dX10_befell_78 rfl ?_
        refine r_if_eq (tgt := 104) dX10_befell_80 (by decide) (fun h80 => ?_) (fun h80 => ?_)
        · try have h80 := bi_0.mp h80
          refine r_iconst dX10_befell_104 (by decide) ?_
          refine r_iadd dX10_befell_105 (w32_id (by omega)) ?_
          refine r_istore_n dX10_befell_106 rfl (by decide) st3 ?_
          refine r_iinc dX10_befell_107 rfl rfl (by decide) (w32_id (by omega)) st4 ?_
          refine r_goto (tgt := 33) dX10_befell_110 (by decide) ?_
          first | exact V.al (by rw [isum_t (p := (fun i : Int => (c = -1 ∨ enC M i 1 = c) ∧ enC M i 2 = u)) (f := fun _ => 1) (by omega)]; rfl) (wk5 (ih (i + 1) (by omega))) | exact V.al (by rw [isum_f (p := (fun i : Int => (c = -1 ∨ enC M i 1 = c) ∧ enC M i 2 = u)) (f := fun _ => 1) (by omega)]; rfl) (wk5 (ih (i + 1) (by omega)))
        · try have h80 := bi_1.mp h80
          refine r_aload_n dX10_befell_83 rfl (by decide) ?_
          refine r_getr (x := 49) dX10_befell_84 flX10_52 sf0 (by decide) (by decide) rfl rfl ?_
          refine r_getr (x := 50) dX10_befell_87 flX10_105 sf49 (by decide) (by decide) rfl rfl ?_
          refine r_iload dX10_befell_90 rfl ?_
          refine r_iconst dX10_befell_92 (by decide) ?_
          refine r_cv2 dX10_befell_93 clX10_203 sf50 (by decide) (by decide) rfl (by first | decide | omega) (Nat.le_of_ble_eq_true rfl) ((c_entry h4)) ⟨Nat.zero_le _, Nat.zero_le _⟩ (fun _ => ?_)
          refine r_iload_n dX10_befell_96 rfl ?_
          refine r_icmp_ne (tgt := 104) dX10_befell_97 (by decide) (fun h97 => ?_) (fun h97 => ?_)
          · refine r_iconst dX10_befell_104 (by decide) ?_
            refine r_iadd dX10_befell_105 (w32_id (by omega)) ?_
            refine r_istore_n dX10_befell_106 rfl (by decide) st3 ?_
            refine r_iinc dX10_befell_107 rfl rfl (by decide) (w32_id (by omega)) st4 ?_
            refine r_goto (tgt := 33) dX10_befell_110 (by decide) ?_
            first | exact V.al (by rw [isum_t (p := (fun i : Int => (c = -1 ∨ enC M i 1 = c) ∧ enC M i 2 = u)) (f := fun _ => 1) (by omega)]; rfl) (wk5 (ih (i + 1) (by omega))) | exact V.al (by rw [isum_f (p := (fun i : Int => (c = -1 ∨ enC M i 1 = c) ∧ enC M i 2 = u)) (f := fun _ => 1) (by omega)]; rfl) (wk5 (ih (i + 1) (by omega)))
          · refine r_iconst dX10_befell_100 (by decide) ?_
            refine r_goto (tgt := 105) dX10_befell_101 (by decide) ?_
            refine r_iadd dX10_befell_105 (w32_id (by omega)) ?_
            refine r_istore_n dX10_befell_106 rfl (by decide) st3 ?_
            refine r_iinc dX10_befell_107 rfl rfl (by decide) (w32_id (by omega)) st4 ?_
            refine r_goto (tgt := 33) dX10_befell_110 (by decide) ?_
            first | exact V.al (by rw [isum_t (p := (fun i : Int => (c = -1 ∨ enC M i 1 = c) ∧ enC M i 2 = u)) (f := fun _ => 1) (by omega)]; rfl) (wk5 (ih (i + 1) (by omega))) | exact V.al (by rw [isum_f (p := (fun i : Int => (c = -1 ∨ enC M i 1 = c) ∧ enC M i 2 = u)) (f := fun _ => 1) (by omega)]; rfl) (wk5 (ih (i + 1) (by omega)))
def fblV (M : Me) (nb : Nat) (c u : Int) : Int := if (c = -1 ∨ (0 ≤ c ∧ c < M 50 3)) ∧ (0 ≤ u ∧ u ≤ 2) then isum (fun i : Int => (c = -1 ∨ enC M i 1 = c) ∧ enC M i 2 = u) (fun _ => 1) nb else -2
theorem f_befell {x y z : Int} {M : Me} (h : CI M) {c u : Int} {nb : Nat} (hnb : M 50 4 = (nb : Int)) (hb30 : nb ≤ 30) : Con kX10_befell 1 0 0 [(1, 0), (0, c), (0, u)] (Sf x y z) M (Ex (some (0, fblV M nb c u)) (Sf x y z) M) := by
  refine Con.ofV (al := [(1, 0), (0, c), (0, u), (9, 0), (9, 0), (9, 0)]) 3 (by decide) (Nat.le_of_ble_eq_true rfl) rfl ?_
  refine r_iload_n dX10_befell_0 rfl ?_
  refine r_iconst dX10_befell_1 (by decide) ?_
  refine r_icmp_eq (tgt := 16) dX10_befell_2 (by decide) (fun h2 => ?_) (fun h2 => ?_)
  · refine r_iload_n dX10_befell_16 rfl ?_
    refine r_if_lt (tgt := 25) dX10_befell_17 (by decide) (fun h17 => ?_) (fun h17 => ?_)
    · refine r_bipush dX10_befell_25 (by decide) (by decide) ?_
      refine r_iret dX10_befell_27 rfl ?_
      first | (exfalso; omega) | exact ⟨by unfold fblV; rw [if_neg (by first | omega | assumption)], rfl, rfl⟩
    · refine r_iload_n dX10_befell_20 rfl ?_
      refine r_iconst dX10_befell_21 (by decide) ?_
      refine r_icmp_le (tgt := 28) dX10_befell_22 (by decide) (fun h22 => ?_) (fun h22 => ?_)
      · refine r_iconst dX10_befell_28 (by decide) ?_
        refine r_istore_n dX10_befell_29 rfl (by decide) st3 ?_
        refine r_iconst dX10_befell_30 (by decide) ?_
        refine r_istore dX10_befell_31 rfl (by decide) st4 ?_
        rw [show fblV M nb c u = isum (fun i : Int => (c = -1 ∨ enC M i 1 = c) ∧ enC M i 2 = u) (fun _ => 1) nb from if_pos (by omega)]
        exact l_befellC h hnb hb30 nb 0 (by omega)
      · refine r_bipush dX10_befell_25 (by decide) (by decide) ?_
        refine r_iret dX10_befell_27 rfl ?_
        first | (exfalso; omega) | exact ⟨by unfold fblV; rw [if_neg (by first | omega | assumption)], rfl, rfl⟩
  · refine r_aload_n dX10_befell_5 rfl (by decide) ?_
    refine r_getr (x := 49) dX10_befell_6 flX10_52 sf0 (by decide) (by decide) rfl rfl ?_
    refine r_iload_n dX10_befell_9 rfl ?_
    refine r_cv1 dX10_befell_10 clX10_169 sf49 (by decide) (by decide) rfl (by first | decide | omega) (Nat.le_of_ble_eq_true rfl) (s_isCrease) ⟨Nat.zero_le _, Nat.zero_le _⟩ (fun _ => ?_)
    refine r_if_eq (tgt := 25) dX10_befell_13 (by decide) (fun h13 => ?_) (fun h13 => ?_)
    · try have h13 := bi_0.mp h13
      refine r_bipush dX10_befell_25 (by decide) (by decide) ?_
      refine r_iret dX10_befell_27 rfl ?_
      first | (exfalso; omega) | exact ⟨by unfold fblV; rw [if_neg (by first | omega | assumption)], rfl, rfl⟩
    · try have h13 := bi_1.mp h13
      refine r_iload_n dX10_befell_16 rfl ?_
      refine r_if_lt (tgt := 25) dX10_befell_17 (by decide) (fun h17 => ?_) (fun h17 => ?_)
      · refine r_bipush dX10_befell_25 (by decide) (by decide) ?_
        refine r_iret dX10_befell_27 rfl ?_
        first | (exfalso; omega) | exact ⟨by unfold fblV; rw [if_neg (by first | omega | assumption)], rfl, rfl⟩
      · refine r_iload_n dX10_befell_20 rfl ?_
        refine r_iconst dX10_befell_21 (by decide) ?_
        refine r_icmp_le (tgt := 28) dX10_befell_22 (by decide) (fun h22 => ?_) (fun h22 => ?_)
        · refine r_iconst dX10_befell_28 (by decide) ?_
          refine r_istore_n dX10_befell_29 rfl (by decide) st3 ?_
          refine r_iconst dX10_befell_30 (by decide) ?_
          refine r_istore dX10_befell_31 rfl (by decide) st4 ?_
          rw [show fblV M nb c u = isum (fun i : Int => (c = -1 ∨ enC M i 1 = c) ∧ enC M i 2 = u) (fun _ => 1) nb from if_pos (by omega)]
          exact l_befellC h hnb hb30 nb 0 (by omega)
        · refine r_bipush dX10_befell_25 (by decide) (by decide) ?_
          refine r_iret dX10_befell_27 rfl ?_
          first | (exfalso; omega) | exact ⟨by unfold fblV; rw [if_neg (by first | omega | assumption)], rfl, rfl⟩
def whU (M : Me) (m : Nat) : Nat → Int × Me
  | 0 => (0, M)
  | t + 1 => (if (ipC (whU M m t).2 t m).1 = 0 then (whU M m t).1 else or32 (whU M m t).1 (shl32 1 t), (ipC (whU M m t).2 t m).2)
theorem whU_0 {M : Me} {m t : Nat} (h : (ipC (whU M m t).2 t m).1 = 0) : whU M m (t + 1) = ((whU M m t).1, (ipC (whU M m t).2 t m).2) := congrArg (fun q => (q, (ipC (whU M m t).2 t m).2)) (if_pos h)
theorem whU_1 {M : Me} {m t : Nat} (h : (ipC (whU M m t).2 t m).1 ≠ 0) : whU M m (t + 1) = (or32 (whU M m t).1 (shl32 1 t), (ipC (whU M m t).2 t m).2) := congrArg (fun q => (q, (ipC (whU M m t).2 t m).2)) (if_neg h)
theorem whU_o {M : Me} {m : Nat} : ∀ (t : Nat) {a j : Int}, ¬ (a = 48 ∧ 0 ≤ j ∧ j < 64) ∧ ¬ (a = 47 ∧ j = 1) → (whU M m t).2 a j = M a j := by
  intro t
  induction t with
  | zero => intro a j _; rfl
  | succ t ih => intro a j q; exact (ipC_o m q).trans (ih q)
theorem ipC_b {M : Me} {t : Int} : ∀ k : Nat, (ipC M t k).1 = 0 ∨ (ipC M t k).1 = 1 := by
  intro k
  cases k with
  | zero => exact Or.inr rfl
  | succ k =>
    unfold ipC
    split
    · exact Or.inl rfl
    · dsimp only; split <;> omega
theorem l_whoseC {x y z : Int} {M : Me} (h : CI M) {np : Nat} (h9 : M 235 0 = (np : Int)) (h98 : np ≤ 8) (hd : ∀ k : Nat, k < np → 0 ≤ M 236 (k : Int) ∧ M 236 (k : Int) < M 50 3) {N : Nat} (hN : M 49 1 = (N : Int)) (hN4 : N ≤ 4) : ∀ (m i : Nat), m + i = N → V kX10_whose 0 0 6 none (Ex (some (0, (whU M np N).1)) (Sf x y z) (whU M np N).2) 4 [(1, 0), (0, (whU M np i).1), (0, (i : Int))] [] (Sf x y z) (whU M np i).2 0 0 := by
  intro m
  induction m with
  | zero =>
    intro i hi
    obtain rfl : i = N := by omega
    refine r_iload_n dX10_whose_4 rfl ?_
    refine r_aload_n dX10_whose_5 rfl (by decide) ?_
    refine r_getr (x := 49) dX10_whose_6 flX10_52 sf0 (by decide) (by decide) rfl rfl ?_
    refine r_gi 1 dX10_whose_9 flX10_86 sf49 (by decide) (by decide) rfl rfl ((whU_o i (by omega)).trans hN) ?_
    refine r_icmp_ge (tgt := 38) dX10_whose_12 (by decide) (fun h12 => ?_) (fun h12 => by exfalso; omega)
    refine r_iload_n dX10_whose_38 rfl ?_
    refine r_iret dX10_whose_39 rfl ?_
    exact ⟨rfl, rfl, rfl⟩
  | succ m ih =>
    intro i hi
    have ihh := ih (i + 1) (by omega)
    have hI : CI (whU M np i).2 := h.of (fun a j q => whU_o i q)
    have hd2 : ∀ k : Nat, k < np → 0 ≤ (whU M np i).2 236 (k : Int) ∧ (whU M np i).2 236 (k : Int) < (whU M np i).2 50 3 := fun k hk => by
      rw [whU_o i (by omega), whU_o i (by omega)]; exact hd k hk
    have hb := ipC_b (M := (whU M np i).2) (t := i) np
    refine r_iload_n dX10_whose_4 rfl ?_
    refine r_aload_n dX10_whose_5 rfl (by decide) ?_
    refine r_getr (x := 49) dX10_whose_6 flX10_52 sf0 (by decide) (by decide) rfl rfl ?_
    refine r_gi 1 dX10_whose_9 flX10_86 sf49 (by decide) (by decide) rfl rfl ((whU_o i (by omega)).trans hN) ?_
    refine r_icmp_ge (tgt := 38) dX10_whose_12 (by decide) (fun h12 => by exfalso; omega) (fun h12 => ?_)
    refine r_aload_n dX10_whose_15 rfl (by decide) ?_
    refine r_getr (x := 49) dX10_whose_16 flX10_52 sf0 (by decide) (by decide) rfl rfl ?_
    refine r_iload_n dX10_whose_19 rfl ?_
    refine r_cv1 dX10_whose_20 clX10_308 sf49 (by decide) (by decide) rfl (by first | decide | omega) (Nat.le_of_ble_eq_true rfl) ((c_isPaidBy hI ((whU_o i (by omega)).trans h9) h98 hd2)) ⟨Nat.zero_le _, Nat.zero_le _⟩ (fun _ => ?_)
    refine r_if_eq (tgt := 32) dX10_whose_23 (by decide) (fun h23 => ?_) (fun h23 => ?_)
    · refine r_iinc dX10_whose_32 rfl rfl (by decide) (w32_id (by omega)) st2 ?_
      refine r_goto (tgt := 4) dX10_whose_35 (by decide) ?_
      first | (rw [whU_0 (by assumption)] at ihh; exact ihh) | (rw [whU_1 (by assumption)] at ihh; exact ihh)
    · refine r_iload_n dX10_whose_26 rfl ?_
      refine r_iconst dX10_whose_27 (by decide) ?_
      refine r_iload_n dX10_whose_28 rfl ?_
      refine r_ishl dX10_whose_29 rfl ?_
      refine r_ior dX10_whose_30 rfl ?_
      refine r_istore_n dX10_whose_31 rfl (by decide) st1 ?_
      refine r_iinc dX10_whose_32 rfl rfl (by decide) (w32_id (by omega)) st2 ?_
      refine r_goto (tgt := 4) dX10_whose_35 (by decide) ?_
      first | (rw [whU_0 (by assumption)] at ihh; exact ihh) | (rw [whU_1 (by assumption)] at ihh; exact ihh)
theorem f_whose {x y z : Int} {M : Me} (h : CI M) {np : Nat} (h9 : M 235 0 = (np : Int)) (h98 : np ≤ 8) (hd : ∀ k : Nat, k < np → 0 ≤ M 236 (k : Int) ∧ M 236 (k : Int) < M 50 3) {N : Nat} (hN : M 49 1 = (N : Int)) (hN4 : N ≤ 4) : Con kX10_whose 6 0 0 [(1, 0)] (Sf x y z) M (Ex (some (0, (whU M np N).1)) (Sf x y z) (whU M np N).2) := by
  refine Con.ofV (al := [(1, 0), (9, 0), (9, 0)]) 2 (by decide) (Nat.le_of_ble_eq_true rfl) rfl ?_
  refine r_iconst dX10_whose_0 (by decide) ?_
  refine r_istore_n dX10_whose_1 rfl (by decide) st1 ?_
  refine r_iconst dX10_whose_2 (by decide) ?_
  refine r_istore_n dX10_whose_3 rfl (by decide) st2 ?_
  exact l_whoseC h h9 h98 hd hN hN4 N 0 (by omega)
def awantV (M : Me) : Int := if M 215 0 < 8 then M 215 0 + 1 else -2
def awantM (M : Me) (u v w : Int) : Me := if M 215 0 < 8 then up (up (up (up M 216 (M 215 0) u) 217 (M 215 0) v) 218 (M 215 0) w) 215 0 (M 215 0 + 1) else M
theorem c_awant {x y z : Int} {M : Me} {u v w : Int} (hb : 0 ≤ M 215 0 ∧ M 215 0 ≤ 8) : Con kX9_add 0 0 0 [(1, 215), (0, u), (0, v), (0, w)] (Sf x y z) M (Ex (some (0, awantV M)) (Sf x y z) (awantM M u v w)) := Con.c2v (t_add_wanted hb) (fun q => by omega)
def gwantV (M : Me) (c g : Int) : Int := if c = -1 then 0 else if ¬ ((0 ≤ c ∧ c < M 50 3) ∧ 0 ≤ g ∧ g ≤ 1) then -2 else awantV M
def gwantM (M : Me) (c g : Int) : Me := if c = -1 then up M 215 0 0 else if ¬ ((0 ≤ c ∧ c < M 50 3) ∧ 0 ≤ g ∧ g ≤ 1) then M else awantM M c g 0
theorem f_want {x y z : Int} {M : Me} {c g : Int} (hb : 0 ≤ M 215 0 ∧ M 215 0 ≤ 8) : Con kX10_want 2 0 0 [(1, 0), (0, c), (0, g)] (Sf x y z) M (Ex (some (0, gwantV M c g)) (Sf x y z) (gwantM M c g)) := by
  refine Con.ofV (al := [(1, 0), (0, c), (0, g)]) 0 (by decide) (Nat.le_of_ble_eq_true rfl) rfl ?_
  refine r_iload_n dX10_want_0 rfl ?_
  refine r_iconst dX10_want_1 (by decide) ?_
  refine r_icmp_ne (tgt := 16) dX10_want_2 (by decide) (fun h2 => ?_) (fun h2 => ?_)
  · refine r_aload_n dX10_want_16 rfl (by decide) ?_
    refine r_getr (x := 49) dX10_want_17 flX10_52 sf0 (by decide) (by decide) rfl rfl ?_
    refine r_iload_n dX10_want_20 rfl ?_
    refine r_cv1 dX10_want_21 clX10_169 sf49 (by decide) (by decide) rfl (by first | decide | omega) (Nat.le_of_ble_eq_true rfl) (s_isCrease) ⟨Nat.zero_le _, Nat.zero_le _⟩ (fun _ => ?_)
    refine r_if_eq (tgt := 36) dX10_want_24 (by decide) (fun h24 => ?_) (fun h24 => ?_)
    · try have h24 := bi_0.mp h24
      refine r_bipush dX10_want_36 (by decide) (by decide) ?_
      refine r_iret dX10_want_38 rfl ?_
      first | (exfalso; omega) | exact ⟨by unfold gwantV; rw [if_pos (by first | omega | assumption)], rfl, by unfold gwantM; rw [if_pos (by first | omega | assumption)]⟩ | exact ⟨by unfold gwantV; rw [if_neg (by first | omega | assumption), if_pos (by first | omega | assumption)], rfl, by unfold gwantM; rw [if_neg (by first | omega | assumption), if_pos (by first | omega | assumption)]⟩ | exact ⟨by unfold gwantV; rw [if_neg (by first | omega | assumption), if_neg (by first | omega | assumption)], rfl, by unfold gwantM; rw [if_neg (by first | omega | assumption), if_neg (by first | omega | assumption)]⟩
    · try have h24 := bi_1.mp h24
      refine r_iload_n dX10_want_27 rfl ?_
      refine r_if_lt (tgt := 36) dX10_want_28 (by decide) (fun h28 => ?_) (fun h28 => ?_)
      · refine r_bipush dX10_want_36 (by decide) (by decide) ?_
        refine r_iret dX10_want_38 rfl ?_
        first | (exfalso; omega) | exact ⟨by unfold gwantV; rw [if_pos (by first | omega | assumption)], rfl, by unfold gwantM; rw [if_pos (by first | omega | assumption)]⟩ | exact ⟨by unfold gwantV; rw [if_neg (by first | omega | assumption), if_pos (by first | omega | assumption)], rfl, by unfold gwantM; rw [if_neg (by first | omega | assumption), if_pos (by first | omega | assumption)]⟩ | exact ⟨by unfold gwantV; rw [if_neg (by first | omega | assumption), if_neg (by first | omega | assumption)], rfl, by unfold gwantM; rw [if_neg (by first | omega | assumption), if_neg (by first | omega | assumption)]⟩
      · refine r_iload_n dX10_want_31 rfl ?_
        refine r_iconst dX10_want_32 (by decide) ?_
        refine r_icmp_le (tgt := 39) dX10_want_33 (by decide) (fun h33 => ?_) (fun h33 => ?_)
        · refine r_aload_n dX10_want_39 rfl (by decide) ?_
          refine r_getr (x := 49) dX10_want_40 flX10_52 sf0 (by decide) (by decide) rfl rfl ?_
          refine r_getr (x := 215) dX10_want_43 flX10_213 sf49 (by decide) (by decide) rfl rfl ?_
          refine r_iload_n dX10_want_46 rfl ?_
          refine r_iload_n dX10_want_47 rfl ?_
          refine r_iconst dX10_want_48 (by decide) ?_
          refine r_cv3 dX10_want_49 clX10_222 sf215 (by decide) (by decide) rfl (by first | decide | omega) (Nat.le_of_ble_eq_true rfl) ((c_awant hb)) ⟨Nat.zero_le _, Nat.zero_le _⟩ (fun _ => ?_)
          refine r_iret dX10_want_52 rfl ?_
          first | (exfalso; omega) | exact ⟨by unfold gwantV; rw [if_pos (by first | omega | assumption)], rfl, by unfold gwantM; rw [if_pos (by first | omega | assumption)]⟩ | exact ⟨by unfold gwantV; rw [if_neg (by first | omega | assumption), if_pos (by first | omega | assumption)], rfl, by unfold gwantM; rw [if_neg (by first | omega | assumption), if_pos (by first | omega | assumption)]⟩ | exact ⟨by unfold gwantV; rw [if_neg (by first | omega | assumption), if_neg (by first | omega | assumption)], rfl, by unfold gwantM; rw [if_neg (by first | omega | assumption), if_neg (by first | omega | assumption)]⟩
        · refine r_bipush dX10_want_36 (by decide) (by decide) ?_
          refine r_iret dX10_want_38 rfl ?_
          first | (exfalso; omega) | exact ⟨by unfold gwantV; rw [if_pos (by first | omega | assumption)], rfl, by unfold gwantM; rw [if_pos (by first | omega | assumption)]⟩ | exact ⟨by unfold gwantV; rw [if_neg (by first | omega | assumption), if_pos (by first | omega | assumption)], rfl, by unfold gwantM; rw [if_neg (by first | omega | assumption), if_pos (by first | omega | assumption)]⟩ | exact ⟨by unfold gwantV; rw [if_neg (by first | omega | assumption), if_neg (by first | omega | assumption)], rfl, by unfold gwantM; rw [if_neg (by first | omega | assumption), if_neg (by first | omega | assumption)]⟩
  · refine r_aload_n dX10_want_5 rfl (by decide) ?_
    refine r_getr (x := 49) dX10_want_6 flX10_52 sf0 (by decide) (by decide) rfl rfl ?_
    refine r_getr (x := 215) dX10_want_9 flX10_213 sf49 (by decide) (by decide) rfl rfl ?_
    refine r_cv0 dX10_want_12 clX10_217 sf215 (by decide) (by decide) rfl (by first | decide | omega) (Nat.le_of_ble_eq_true rfl) (t_empty_wanted) ⟨Nat.zero_le _, Nat.zero_le _⟩ (fun _ => ?_)
    refine r_iret dX10_want_15 rfl ?_
    first | (exfalso; omega) | exact ⟨by unfold gwantV; rw [if_pos (by first | omega | assumption)], rfl, by unfold gwantM; rw [if_pos (by first | omega | assumption)]⟩ | exact ⟨by unfold gwantV; rw [if_neg (by first | omega | assumption), if_pos (by first | omega | assumption)], rfl, by unfold gwantM; rw [if_neg (by first | omega | assumption), if_pos (by first | omega | assumption)]⟩ | exact ⟨by unfold gwantV; rw [if_neg (by first | omega | assumption), if_neg (by first | omega | assumption)], rfl, by unfold gwantM; rw [if_neg (by first | omega | assumption), if_neg (by first | omega | assumption)]⟩
def aboardV (M : Me) : Int := if M 219 0 < 8 then M 219 0 + 1 else -2
def aboardM (M : Me) (u v w : Int) : Me := if M 219 0 < 8 then up (up (up (up M 220 (M 219 0) u) 221 (M 219 0) v) 222 (M 219 0) w) 219 0 (M 219 0 + 1) else M
theorem c_aboard {x y z : Int} {M : Me} {u v w : Int} (hb : 0 ≤ M 219 0 ∧ M 219 0 ≤ 8) : Con kX9_add 0 0 0 [(1, 219), (0, u), (0, v), (0, w)] (Sf x y z) M (Ex (some (0, aboardV M)) (Sf x y z) (aboardM M u v w)) := Con.c2v (t_add_work hb) (fun q => by omega)
def gboardV (M : Me) (c : Int) : Int := if c = -1 then 0 else if ¬ (1 ≤ c ∧ c ≤ 99) then -2 else aboardV M
def gboardM (M : Me) (c : Int) : Me := if c = -1 then up M 219 0 0 else if ¬ (1 ≤ c ∧ c ≤ 99) then M else aboardM M c 0 0
theorem f_board {x y z : Int} {M : Me} {c : Int} (hb : 0 ≤ M 219 0 ∧ M 219 0 ≤ 8) : Con kX10_board 2 0 0 [(1, 0), (0, c)] (Sf x y z) M (Ex (some (0, gboardV M c)) (Sf x y z) (gboardM M c)) := by
  refine Con.ofV (al := [(1, 0), (0, c)]) 0 (by decide) (Nat.le_of_ble_eq_true rfl) rfl ?_
  refine r_iload_n dX10_board_0 rfl ?_
  refine r_iconst dX10_board_1 (by decide) ?_
  refine r_icmp_ne (tgt := 16) dX10_board_2 (by decide) (fun h2 => ?_) (fun h2 => ?_)
  · refine r_iload_n dX10_board_16 rfl ?_
    refine r_iconst dX10_board_17 (by decide) ?_
    refine r_icmp_lt (tgt := 27) dX10_board_18 (by decide) (fun h18 => ?_) (fun h18 => ?_)
    · refine r_bipush dX10_board_27 (by decide) (by decide) ?_
      refine r_goto (tgt := 45) dX10_board_29 (by decide) ?_
      refine r_iret dX10_board_45 rfl ?_
      first | (exfalso; omega) | exact ⟨by unfold gboardV; rw [if_pos (by first | omega | assumption)], rfl, by unfold gboardM; rw [if_pos (by first | omega | assumption)]⟩ | exact ⟨by unfold gboardV; rw [if_neg (by first | omega | assumption), if_pos (by first | omega | assumption)], rfl, by unfold gboardM; rw [if_neg (by first | omega | assumption), if_pos (by first | omega | assumption)]⟩ | exact ⟨by unfold gboardV; rw [if_neg (by first | omega | assumption), if_neg (by first | omega | assumption)], rfl, by unfold gboardM; rw [if_neg (by first | omega | assumption), if_neg (by first | omega | assumption)]⟩
    · refine r_iload_n dX10_board_21 rfl ?_
      refine r_bipush dX10_board_22 (by decide) (by decide) ?_
      refine r_icmp_le (tgt := 32) dX10_board_24 (by decide) (fun h24 => ?_) (fun h24 => ?_)
      · refine r_aload_n dX10_board_32 rfl (by decide) ?_
        refine r_getr (x := 49) dX10_board_33 flX10_52 sf0 (by decide) (by decide) rfl rfl ?_
        refine r_getr (x := 219) dX10_board_36 flX10_229 sf49 (by decide) (by decide) rfl rfl ?_
        refine r_iload_n dX10_board_39 rfl ?_
        refine r_iconst dX10_board_40 (by decide) ?_
        refine r_iconst dX10_board_41 (by decide) ?_
        refine r_cv3 dX10_board_42 clX10_222 sf219 (by decide) (by decide) rfl (by first | decide | omega) (Nat.le_of_ble_eq_true rfl) ((c_aboard hb)) ⟨Nat.zero_le _, Nat.zero_le _⟩ (fun _ => ?_)
        refine r_iret dX10_board_45 rfl ?_
        first | (exfalso; omega) | exact ⟨by unfold gboardV; rw [if_pos (by first | omega | assumption)], rfl, by unfold gboardM; rw [if_pos (by first | omega | assumption)]⟩ | exact ⟨by unfold gboardV; rw [if_neg (by first | omega | assumption), if_pos (by first | omega | assumption)], rfl, by unfold gboardM; rw [if_neg (by first | omega | assumption), if_pos (by first | omega | assumption)]⟩ | exact ⟨by unfold gboardV; rw [if_neg (by first | omega | assumption), if_neg (by first | omega | assumption)], rfl, by unfold gboardM; rw [if_neg (by first | omega | assumption), if_neg (by first | omega | assumption)]⟩
      · refine r_bipush dX10_board_27 (by decide) (by decide) ?_
        refine r_goto (tgt := 45) dX10_board_29 (by decide) ?_
        refine r_iret dX10_board_45 rfl ?_
        first | (exfalso; omega) | exact ⟨by unfold gboardV; rw [if_pos (by first | omega | assumption)], rfl, by unfold gboardM; rw [if_pos (by first | omega | assumption)]⟩ | exact ⟨by unfold gboardV; rw [if_neg (by first | omega | assumption), if_pos (by first | omega | assumption)], rfl, by unfold gboardM; rw [if_neg (by first | omega | assumption), if_pos (by first | omega | assumption)]⟩ | exact ⟨by unfold gboardV; rw [if_neg (by first | omega | assumption), if_neg (by first | omega | assumption)], rfl, by unfold gboardM; rw [if_neg (by first | omega | assumption), if_neg (by first | omega | assumption)]⟩
  · refine r_aload_n dX10_board_5 rfl (by decide) ?_
    refine r_getr (x := 49) dX10_board_6 flX10_52 sf0 (by decide) (by decide) rfl rfl ?_
    refine r_getr (x := 219) dX10_board_9 flX10_229 sf49 (by decide) (by decide) rfl rfl ?_
    refine r_cv0 dX10_board_12 clX10_217 sf219 (by decide) (by decide) rfl (by first | decide | omega) (Nat.le_of_ble_eq_true rfl) (t_empty_work) ⟨Nat.zero_le _, Nat.zero_le _⟩ (fun _ => ?_)
    refine r_iret dX10_board_15 rfl ?_
    first | (exfalso; omega) | exact ⟨by unfold gboardV; rw [if_pos (by first | omega | assumption)], rfl, by unfold gboardM; rw [if_pos (by first | omega | assumption)]⟩ | exact ⟨by unfold gboardV; rw [if_neg (by first | omega | assumption), if_pos (by first | omega | assumption)], rfl, by unfold gboardM; rw [if_neg (by first | omega | assumption), if_pos (by first | omega | assumption)]⟩ | exact ⟨by unfold gboardV; rw [if_neg (by first | omega | assumption), if_neg (by first | omega | assumption)], rfl, by unfold gboardM; rw [if_neg (by first | omega | assumption), if_neg (by first | omega | assumption)]⟩
def aseamV (M : Me) : Int := if M 223 0 < 8 then M 223 0 + 1 else -2
def aseamM (M : Me) (u v w : Int) : Me := if M 223 0 < 8 then up (up (up (up M 224 (M 223 0) u) 225 (M 223 0) v) 226 (M 223 0) w) 223 0 (M 223 0 + 1) else M
theorem c_aseam {x y z : Int} {M : Me} {u v w : Int} (hb : 0 ≤ M 223 0 ∧ M 223 0 ≤ 8) : Con kX9_add 0 0 0 [(1, 223), (0, u), (0, v), (0, w)] (Sf x y z) M (Ex (some (0, aseamV M)) (Sf x y z) (aseamM M u v w)) := Con.c2v (t_add_seams hb) (fun q => by omega)
def gseamV (M : Me) (c g s : Int) : Int := if c = -1 then 0 else if ¬ (0 ≤ c ∧ g ≤ 99 ∧ c ≤ g ∧ 0 ≤ s ∧ s ≤ 999) then -2 else aseamV M
def gseamM (M : Me) (c g s : Int) : Me := if c = -1 then up M 223 0 0 else if ¬ (0 ≤ c ∧ g ≤ 99 ∧ c ≤ g ∧ 0 ≤ s ∧ s ≤ 999) then M else aseamM M c g s
theorem f_seam {x y z : Int} {M : Me} {c g s : Int} (hb : 0 ≤ M 223 0 ∧ M 223 0 ≤ 8) : Con kX10_seam 2 0 0 [(1, 0), (0, c), (0, g), (0, s)] (Sf x y z) M (Ex (some (0, gseamV M c g s)) (Sf x y z) (gseamM M c g s)) := by
  refine Con.ofV (al := [(1, 0), (0, c), (0, g), (0, s)]) 0 (by decide) (Nat.le_of_ble_eq_true rfl) rfl ?_
  refine r_iload_n dX10_seam_0 rfl ?_
  refine r_iconst dX10_seam_1 (by decide) ?_
  refine r_icmp_ne (tgt := 16) dX10_seam_2 (by decide) (fun h2 => ?_) (fun h2 => ?_)
  · refine r_iload_n dX10_seam_16 rfl ?_
    refine r_if_lt (tgt := 42) dX10_seam_17 (by decide) (fun h17 => ?_) (fun h17 => ?_)
    · refine r_bipush dX10_seam_42 (by decide) (by decide) ?_
      refine r_iret dX10_seam_44 rfl ?_
      first | (exfalso; omega) | exact ⟨by unfold gseamV; rw [if_pos (by first | omega | assumption)], rfl, by unfold gseamM; rw [if_pos (by first | omega | assumption)]⟩ | exact ⟨by unfold gseamV; rw [if_neg (by first | omega | assumption), if_pos (by first | omega | assumption)], rfl, by unfold gseamM; rw [if_neg (by first | omega | assumption), if_pos (by first | omega | assumption)]⟩ | exact ⟨by unfold gseamV; rw [if_neg (by first | omega | assumption), if_neg (by first | omega | assumption)], rfl, by unfold gseamM; rw [if_neg (by first | omega | assumption), if_neg (by first | omega | assumption)]⟩
    · refine r_iload_n dX10_seam_20 rfl ?_
      refine r_bipush dX10_seam_21 (by decide) (by decide) ?_
      refine r_icmp_gt (tgt := 42) dX10_seam_23 (by decide) (fun h23 => ?_) (fun h23 => ?_)
      · refine r_bipush dX10_seam_42 (by decide) (by decide) ?_
        refine r_iret dX10_seam_44 rfl ?_
        first | (exfalso; omega) | exact ⟨by unfold gseamV; rw [if_pos (by first | omega | assumption)], rfl, by unfold gseamM; rw [if_pos (by first | omega | assumption)]⟩ | exact ⟨by unfold gseamV; rw [if_neg (by first | omega | assumption), if_pos (by first | omega | assumption)], rfl, by unfold gseamM; rw [if_neg (by first | omega | assumption), if_pos (by first | omega | assumption)]⟩ | exact ⟨by unfold gseamV; rw [if_neg (by first | omega | assumption), if_neg (by first | omega | assumption)], rfl, by unfold gseamM; rw [if_neg (by first | omega | assumption), if_neg (by first | omega | assumption)]⟩
      · refine r_iload_n dX10_seam_26 rfl ?_
        refine r_iload_n dX10_seam_27 rfl ?_
        refine r_icmp_gt (tgt := 42) dX10_seam_28 (by decide) (fun h28 => ?_) (fun h28 => ?_)
        · refine r_bipush dX10_seam_42 (by decide) (by decide) ?_
          refine r_iret dX10_seam_44 rfl ?_
          first | (exfalso; omega) | exact ⟨by unfold gseamV; rw [if_pos (by first | omega | assumption)], rfl, by unfold gseamM; rw [if_pos (by first | omega | assumption)]⟩ | exact ⟨by unfold gseamV; rw [if_neg (by first | omega | assumption), if_pos (by first | omega | assumption)], rfl, by unfold gseamM; rw [if_neg (by first | omega | assumption), if_pos (by first | omega | assumption)]⟩ | exact ⟨by unfold gseamV; rw [if_neg (by first | omega | assumption), if_neg (by first | omega | assumption)], rfl, by unfold gseamM; rw [if_neg (by first | omega | assumption), if_neg (by first | omega | assumption)]⟩
        · refine r_iload_n dX10_seam_31 rfl ?_
          refine r_if_lt (tgt := 42) dX10_seam_32 (by decide) (fun h32 => ?_) (fun h32 => ?_)
          · refine r_bipush dX10_seam_42 (by decide) (by decide) ?_
            refine r_iret dX10_seam_44 rfl ?_
            first | (exfalso; omega) | exact ⟨by unfold gseamV; rw [if_pos (by first | omega | assumption)], rfl, by unfold gseamM; rw [if_pos (by first | omega | assumption)]⟩ | exact ⟨by unfold gseamV; rw [if_neg (by first | omega | assumption), if_pos (by first | omega | assumption)], rfl, by unfold gseamM; rw [if_neg (by first | omega | assumption), if_pos (by first | omega | assumption)]⟩ | exact ⟨by unfold gseamV; rw [if_neg (by first | omega | assumption), if_neg (by first | omega | assumption)], rfl, by unfold gseamM; rw [if_neg (by first | omega | assumption), if_neg (by first | omega | assumption)]⟩
          · refine r_iload_n dX10_seam_35 rfl ?_
            refine r_sipush dX10_seam_36 (by decide) (by decide) ?_
            refine r_icmp_le (tgt := 45) dX10_seam_39 (by decide) (fun h39 => ?_) (fun h39 => ?_)
            · refine r_aload_n dX10_seam_45 rfl (by decide) ?_
              refine r_getr (x := 49) dX10_seam_46 flX10_52 sf0 (by decide) (by decide) rfl rfl ?_
              refine r_getr (x := 223) dX10_seam_49 flX10_249 sf49 (by decide) (by decide) rfl rfl ?_
              refine r_iload_n dX10_seam_52 rfl ?_
              refine r_iload_n dX10_seam_53 rfl ?_
              refine r_iload_n dX10_seam_54 rfl ?_
              refine r_cv3 dX10_seam_55 clX10_222 sf223 (by decide) (by decide) rfl (by first | decide | omega) (Nat.le_of_ble_eq_true rfl) ((c_aseam hb)) ⟨Nat.zero_le _, Nat.zero_le _⟩ (fun _ => ?_)
              refine r_iret dX10_seam_58 rfl ?_
              first | (exfalso; omega) | exact ⟨by unfold gseamV; rw [if_pos (by first | omega | assumption)], rfl, by unfold gseamM; rw [if_pos (by first | omega | assumption)]⟩ | exact ⟨by unfold gseamV; rw [if_neg (by first | omega | assumption), if_pos (by first | omega | assumption)], rfl, by unfold gseamM; rw [if_neg (by first | omega | assumption), if_pos (by first | omega | assumption)]⟩ | exact ⟨by unfold gseamV; rw [if_neg (by first | omega | assumption), if_neg (by first | omega | assumption)], rfl, by unfold gseamM; rw [if_neg (by first | omega | assumption), if_neg (by first | omega | assumption)]⟩
            · refine r_bipush dX10_seam_42 (by decide) (by decide) ?_
              refine r_iret dX10_seam_44 rfl ?_
              first | (exfalso; omega) | exact ⟨by unfold gseamV; rw [if_pos (by first | omega | assumption)], rfl, by unfold gseamM; rw [if_pos (by first | omega | assumption)]⟩ | exact ⟨by unfold gseamV; rw [if_neg (by first | omega | assumption), if_pos (by first | omega | assumption)], rfl, by unfold gseamM; rw [if_neg (by first | omega | assumption), if_pos (by first | omega | assumption)]⟩ | exact ⟨by unfold gseamV; rw [if_neg (by first | omega | assumption), if_neg (by first | omega | assumption)], rfl, by unfold gseamM; rw [if_neg (by first | omega | assumption), if_neg (by first | omega | assumption)]⟩
  · refine r_aload_n dX10_seam_5 rfl (by decide) ?_
    refine r_getr (x := 49) dX10_seam_6 flX10_52 sf0 (by decide) (by decide) rfl rfl ?_
    refine r_getr (x := 223) dX10_seam_9 flX10_249 sf49 (by decide) (by decide) rfl rfl ?_
    refine r_cv0 dX10_seam_12 clX10_217 sf223 (by decide) (by decide) rfl (by first | decide | omega) (Nat.le_of_ble_eq_true rfl) (t_empty_seams) ⟨Nat.zero_le _, Nat.zero_le _⟩ (fun _ => ?_)
    refine r_iret dX10_seam_15 rfl ?_
    first | (exfalso; omega) | exact ⟨by unfold gseamV; rw [if_pos (by first | omega | assumption)], rfl, by unfold gseamM; rw [if_pos (by first | omega | assumption)]⟩ | exact ⟨by unfold gseamV; rw [if_neg (by first | omega | assumption), if_pos (by first | omega | assumption)], rfl, by unfold gseamM; rw [if_neg (by first | omega | assumption), if_pos (by first | omega | assumption)]⟩ | exact ⟨by unfold gseamV; rw [if_neg (by first | omega | assumption), if_neg (by first | omega | assumption)], rfl, by unfold gseamM; rw [if_neg (by first | omega | assumption), if_neg (by first | omega | assumption)]⟩
def aheirV (M : Me) : Int := if M 227 0 < 6 then M 227 0 + 1 else -2
def aheirM (M : Me) (u v w : Int) : Me := if M 227 0 < 6 then up (up (up (up M 228 (M 227 0) u) 229 (M 227 0) v) 230 (M 227 0) w) 227 0 (M 227 0 + 1) else M
theorem c_aheir {x y z : Int} {M : Me} {u v w : Int} (hb : 0 ≤ M 227 0 ∧ M 227 0 ≤ 6) : Con kX9_add 0 0 0 [(1, 227), (0, u), (0, v), (0, w)] (Sf x y z) M (Ex (some (0, aheirV M)) (Sf x y z) (aheirM M u v w)) := Con.c2v (t_add_nephews hb) (fun q => by omega)
def gheirV (M : Me) (c : Int) : Int := if c = -1 then 0 else if ¬ (1 ≤ c ∧ c ≤ 999) then -2 else aheirV M
def gheirM (M : Me) (c : Int) : Me := if c = -1 then up M 227 0 0 else if ¬ (1 ≤ c ∧ c ≤ 999) then M else aheirM M c 0 0
theorem f_heir {x y z : Int} {M : Me} {c : Int} (hb : 0 ≤ M 227 0 ∧ M 227 0 ≤ 6) : Con kX10_heir 2 0 0 [(1, 0), (0, c)] (Sf x y z) M (Ex (some (0, gheirV M c)) (Sf x y z) (gheirM M c)) := by
  refine Con.ofV (al := [(1, 0), (0, c)]) 0 (by decide) (Nat.le_of_ble_eq_true rfl) rfl ?_
  refine r_iload_n dX10_heir_0 rfl ?_
  refine r_iconst dX10_heir_1 (by decide) ?_
  refine r_icmp_ne (tgt := 16) dX10_heir_2 (by decide) (fun h2 => ?_) (fun h2 => ?_)
  · refine r_iload_n dX10_heir_16 rfl ?_
    refine r_iconst dX10_heir_17 (by decide) ?_
    refine r_icmp_lt (tgt := 28) dX10_heir_18 (by decide) (fun h18 => ?_) (fun h18 => ?_)
    · refine r_bipush dX10_heir_28 (by decide) (by decide) ?_
      refine r_goto (tgt := 46) dX10_heir_30 (by decide) ?_
      refine r_iret dX10_heir_46 rfl ?_
      first | (exfalso; omega) | exact ⟨by unfold gheirV; rw [if_pos (by first | omega | assumption)], rfl, by unfold gheirM; rw [if_pos (by first | omega | assumption)]⟩ | exact ⟨by unfold gheirV; rw [if_neg (by first | omega | assumption), if_pos (by first | omega | assumption)], rfl, by unfold gheirM; rw [if_neg (by first | omega | assumption), if_pos (by first | omega | assumption)]⟩ | exact ⟨by unfold gheirV; rw [if_neg (by first | omega | assumption), if_neg (by first | omega | assumption)], rfl, by unfold gheirM; rw [if_neg (by first | omega | assumption), if_neg (by first | omega | assumption)]⟩
    · refine r_iload_n dX10_heir_21 rfl ?_
      refine r_sipush dX10_heir_22 (by decide) (by decide) ?_
      refine r_icmp_le (tgt := 33) dX10_heir_25 (by decide) (fun h25 => ?_) (fun h25 => ?_)
      · refine r_aload_n dX10_heir_33 rfl (by decide) ?_
        refine r_getr (x := 49) dX10_heir_34 flX10_52 sf0 (by decide) (by decide) rfl rfl ?_
        refine r_getr (x := 227) dX10_heir_37 flX10_268 sf49 (by decide) (by decide) rfl rfl ?_
        refine r_iload_n dX10_heir_40 rfl ?_
        refine r_iconst dX10_heir_41 (by decide) ?_
        refine r_iconst dX10_heir_42 (by decide) ?_
        refine r_cv3 dX10_heir_43 clX10_222 sf227 (by decide) (by decide) rfl (by first | decide | omega) (Nat.le_of_ble_eq_true rfl) ((c_aheir hb)) ⟨Nat.zero_le _, Nat.zero_le _⟩ (fun _ => ?_)
        refine r_iret dX10_heir_46 rfl ?_
        first | (exfalso; omega) | exact ⟨by unfold gheirV; rw [if_pos (by first | omega | assumption)], rfl, by unfold gheirM; rw [if_pos (by first | omega | assumption)]⟩ | exact ⟨by unfold gheirV; rw [if_neg (by first | omega | assumption), if_pos (by first | omega | assumption)], rfl, by unfold gheirM; rw [if_neg (by first | omega | assumption), if_pos (by first | omega | assumption)]⟩ | exact ⟨by unfold gheirV; rw [if_neg (by first | omega | assumption), if_neg (by first | omega | assumption)], rfl, by unfold gheirM; rw [if_neg (by first | omega | assumption), if_neg (by first | omega | assumption)]⟩
      · refine r_bipush dX10_heir_28 (by decide) (by decide) ?_
        refine r_goto (tgt := 46) dX10_heir_30 (by decide) ?_
        refine r_iret dX10_heir_46 rfl ?_
        first | (exfalso; omega) | exact ⟨by unfold gheirV; rw [if_pos (by first | omega | assumption)], rfl, by unfold gheirM; rw [if_pos (by first | omega | assumption)]⟩ | exact ⟨by unfold gheirV; rw [if_neg (by first | omega | assumption), if_pos (by first | omega | assumption)], rfl, by unfold gheirM; rw [if_neg (by first | omega | assumption), if_pos (by first | omega | assumption)]⟩ | exact ⟨by unfold gheirV; rw [if_neg (by first | omega | assumption), if_neg (by first | omega | assumption)], rfl, by unfold gheirM; rw [if_neg (by first | omega | assumption), if_neg (by first | omega | assumption)]⟩
  · refine r_aload_n dX10_heir_5 rfl (by decide) ?_
    refine r_getr (x := 49) dX10_heir_6 flX10_52 sf0 (by decide) (by decide) rfl rfl ?_
    refine r_getr (x := 227) dX10_heir_9 flX10_268 sf49 (by decide) (by decide) rfl rfl ?_
    refine r_cv0 dX10_heir_12 clX10_217 sf227 (by decide) (by decide) rfl (by first | decide | omega) (Nat.le_of_ble_eq_true rfl) (t_empty_nephews) ⟨Nat.zero_le _, Nat.zero_le _⟩ (fun _ => ?_)
    refine r_iret dX10_heir_15 rfl ?_
    first | (exfalso; omega) | exact ⟨by unfold gheirV; rw [if_pos (by first | omega | assumption)], rfl, by unfold gheirM; rw [if_pos (by first | omega | assumption)]⟩ | exact ⟨by unfold gheirV; rw [if_neg (by first | omega | assumption), if_pos (by first | omega | assumption)], rfl, by unfold gheirM; rw [if_neg (by first | omega | assumption), if_pos (by first | omega | assumption)]⟩ | exact ⟨by unfold gheirV; rw [if_neg (by first | omega | assumption), if_neg (by first | omega | assumption)], rfl, by unfold gheirM; rw [if_neg (by first | omega | assumption), if_neg (by first | omega | assumption)]⟩
def aofferV (M : Me) : Int := if M 231 0 < 8 then M 231 0 + 1 else -2
def aofferM (M : Me) (u v w : Int) : Me := if M 231 0 < 8 then up (up (up (up M 232 (M 231 0) u) 233 (M 231 0) v) 234 (M 231 0) w) 231 0 (M 231 0 + 1) else M
theorem c_aoffer {x y z : Int} {M : Me} {u v w : Int} (hb : 0 ≤ M 231 0 ∧ M 231 0 ≤ 8) : Con kX9_add 0 0 0 [(1, 231), (0, u), (0, v), (0, w)] (Sf x y z) M (Ex (some (0, aofferV M)) (Sf x y z) (aofferM M u v w)) := Con.c2v (t_add_offers hb) (fun q => by omega)
def gofferV (M : Me) (c : Int) : Int := if c = -1 then 0 else if ¬ (0 ≤ c ∧ c ≤ 999) then -2 else aofferV M
def gofferM (M : Me) (c : Int) : Me := if c = -1 then up M 231 0 0 else if ¬ (0 ≤ c ∧ c ≤ 999) then M else aofferM M c 0 0
theorem f_offer {x y z : Int} {M : Me} {c : Int} (hb : 0 ≤ M 231 0 ∧ M 231 0 ≤ 8) : Con kX10_offer 2 0 0 [(1, 0), (0, c)] (Sf x y z) M (Ex (some (0, gofferV M c)) (Sf x y z) (gofferM M c)) := by
  refine Con.ofV (al := [(1, 0), (0, c)]) 0 (by decide) (Nat.le_of_ble_eq_true rfl) rfl ?_
  refine r_iload_n dX10_offer_0 rfl ?_
  refine r_iconst dX10_offer_1 (by decide) ?_
  refine r_icmp_ne (tgt := 16) dX10_offer_2 (by decide) (fun h2 => ?_) (fun h2 => ?_)
  · refine r_iload_n dX10_offer_16 rfl ?_
    refine r_if_lt (tgt := 27) dX10_offer_17 (by decide) (fun h17 => ?_) (fun h17 => ?_)
    · refine r_bipush dX10_offer_27 (by decide) (by decide) ?_
      refine r_goto (tgt := 45) dX10_offer_29 (by decide) ?_
      refine r_iret dX10_offer_45 rfl ?_
      first | (exfalso; omega) | exact ⟨by unfold gofferV; rw [if_pos (by first | omega | assumption)], rfl, by unfold gofferM; rw [if_pos (by first | omega | assumption)]⟩ | exact ⟨by unfold gofferV; rw [if_neg (by first | omega | assumption), if_pos (by first | omega | assumption)], rfl, by unfold gofferM; rw [if_neg (by first | omega | assumption), if_pos (by first | omega | assumption)]⟩ | exact ⟨by unfold gofferV; rw [if_neg (by first | omega | assumption), if_neg (by first | omega | assumption)], rfl, by unfold gofferM; rw [if_neg (by first | omega | assumption), if_neg (by first | omega | assumption)]⟩
    · refine r_iload_n dX10_offer_20 rfl ?_
      refine r_sipush dX10_offer_21 (by decide) (by decide) ?_
      refine r_icmp_le (tgt := 32) dX10_offer_24 (by decide) (fun h24 => ?_) (fun h24 => ?_)
      · refine r_aload_n dX10_offer_32 rfl (by decide) ?_
        refine r_getr (x := 49) dX10_offer_33 flX10_52 sf0 (by decide) (by decide) rfl rfl ?_
        refine r_getr (x := 231) dX10_offer_36 flX10_278 sf49 (by decide) (by decide) rfl rfl ?_
        refine r_iload_n dX10_offer_39 rfl ?_
        refine r_iconst dX10_offer_40 (by decide) ?_
        refine r_iconst dX10_offer_41 (by decide) ?_
        refine r_cv3 dX10_offer_42 clX10_222 sf231 (by decide) (by decide) rfl (by first | decide | omega) (Nat.le_of_ble_eq_true rfl) ((c_aoffer hb)) ⟨Nat.zero_le _, Nat.zero_le _⟩ (fun _ => ?_)
        refine r_iret dX10_offer_45 rfl ?_
        first | (exfalso; omega) | exact ⟨by unfold gofferV; rw [if_pos (by first | omega | assumption)], rfl, by unfold gofferM; rw [if_pos (by first | omega | assumption)]⟩ | exact ⟨by unfold gofferV; rw [if_neg (by first | omega | assumption), if_pos (by first | omega | assumption)], rfl, by unfold gofferM; rw [if_neg (by first | omega | assumption), if_pos (by first | omega | assumption)]⟩ | exact ⟨by unfold gofferV; rw [if_neg (by first | omega | assumption), if_neg (by first | omega | assumption)], rfl, by unfold gofferM; rw [if_neg (by first | omega | assumption), if_neg (by first | omega | assumption)]⟩
      · refine r_bipush dX10_offer_27 (by decide) (by decide) ?_
        refine r_goto (tgt := 45) dX10_offer_29 (by decide) ?_
        refine r_iret dX10_offer_45 rfl ?_
        first | (exfalso; omega) | exact ⟨by unfold gofferV; rw [if_pos (by first | omega | assumption)], rfl, by unfold gofferM; rw [if_pos (by first | omega | assumption)]⟩ | exact ⟨by unfold gofferV; rw [if_neg (by first | omega | assumption), if_pos (by first | omega | assumption)], rfl, by unfold gofferM; rw [if_neg (by first | omega | assumption), if_pos (by first | omega | assumption)]⟩ | exact ⟨by unfold gofferV; rw [if_neg (by first | omega | assumption), if_neg (by first | omega | assumption)], rfl, by unfold gofferM; rw [if_neg (by first | omega | assumption), if_neg (by first | omega | assumption)]⟩
  · refine r_aload_n dX10_offer_5 rfl (by decide) ?_
    refine r_getr (x := 49) dX10_offer_6 flX10_52 sf0 (by decide) (by decide) rfl rfl ?_
    refine r_getr (x := 231) dX10_offer_9 flX10_278 sf49 (by decide) (by decide) rfl rfl ?_
    refine r_cv0 dX10_offer_12 clX10_217 sf231 (by decide) (by decide) rfl (by first | decide | omega) (Nat.le_of_ble_eq_true rfl) (t_empty_offers) ⟨Nat.zero_le _, Nat.zero_le _⟩ (fun _ => ?_)
    refine r_iret dX10_offer_15 rfl ?_
    first | (exfalso; omega) | exact ⟨by unfold gofferV; rw [if_pos (by first | omega | assumption)], rfl, by unfold gofferM; rw [if_pos (by first | omega | assumption)]⟩ | exact ⟨by unfold gofferV; rw [if_neg (by first | omega | assumption), if_pos (by first | omega | assumption)], rfl, by unfold gofferM; rw [if_neg (by first | omega | assumption), if_pos (by first | omega | assumption)]⟩ | exact ⟨by unfold gofferV; rw [if_neg (by first | omega | assumption), if_neg (by first | omega | assumption)], rfl, by unfold gofferM; rw [if_neg (by first | omega | assumption), if_neg (by first | omega | assumption)]⟩
def apricedV (M : Me) : Int := if M 235 0 < 8 then M 235 0 + 1 else -2
def apricedM (M : Me) (u v w : Int) : Me := if M 235 0 < 8 then up (up (up (up M 236 (M 235 0) u) 237 (M 235 0) v) 238 (M 235 0) w) 235 0 (M 235 0 + 1) else M
theorem c_apriced {x y z : Int} {M : Me} {u v w : Int} (hb : 0 ≤ M 235 0 ∧ M 235 0 ≤ 8) : Con kX9_add 0 0 0 [(1, 235), (0, u), (0, v), (0, w)] (Sf x y z) M (Ex (some (0, apricedV M)) (Sf x y z) (apricedM M u v w)) := Con.c2v (t_add_paid hb) (fun q => by omega)
def gpricedV (M : Me) (c g : Int) : Int := if c = -1 then 0 else if ¬ ((0 ≤ c ∧ c < M 50 3) ∧ 0 ≤ g ∧ g ≤ 9999) then -2 else apricedV M
def gpricedM (M : Me) (c g : Int) : Me := if c = -1 then up M 235 0 0 else if ¬ ((0 ≤ c ∧ c < M 50 3) ∧ 0 ≤ g ∧ g ≤ 9999) then M else apricedM M c g 0
theorem f_priced {x y z : Int} {M : Me} {c g : Int} (hb : 0 ≤ M 235 0 ∧ M 235 0 ≤ 8) : Con kX10_priced 2 0 0 [(1, 0), (0, c), (0, g)] (Sf x y z) M (Ex (some (0, gpricedV M c g)) (Sf x y z) (gpricedM M c g)) := by
  refine Con.ofV (al := [(1, 0), (0, c), (0, g)]) 0 (by decide) (Nat.le_of_ble_eq_true rfl) rfl ?_
  refine r_iload_n dX10_priced_0 rfl ?_
  refine r_iconst dX10_priced_1 (by decide) ?_
  refine r_icmp_ne (tgt := 16) dX10_priced_2 (by decide) (fun h2 => ?_) (fun h2 => ?_)
  · refine r_aload_n dX10_priced_16 rfl (by decide) ?_
    refine r_getr (x := 49) dX10_priced_17 flX10_52 sf0 (by decide) (by decide) rfl rfl ?_
    refine r_iload_n dX10_priced_20 rfl ?_
    refine r_cv1 dX10_priced_21 clX10_169 sf49 (by decide) (by decide) rfl (by first | decide | omega) (Nat.le_of_ble_eq_true rfl) (s_isCrease) ⟨Nat.zero_le _, Nat.zero_le _⟩ (fun _ => ?_)
    refine r_if_eq (tgt := 38) dX10_priced_24 (by decide) (fun h24 => ?_) (fun h24 => ?_)
    · try have h24 := bi_0.mp h24
      refine r_bipush dX10_priced_38 (by decide) (by decide) ?_
      refine r_iret dX10_priced_40 rfl ?_
      first | (exfalso; omega) | exact ⟨by unfold gpricedV; rw [if_pos (by first | omega | assumption)], rfl, by unfold gpricedM; rw [if_pos (by first | omega | assumption)]⟩ | exact ⟨by unfold gpricedV; rw [if_neg (by first | omega | assumption), if_pos (by first | omega | assumption)], rfl, by unfold gpricedM; rw [if_neg (by first | omega | assumption), if_pos (by first | omega | assumption)]⟩ | exact ⟨by unfold gpricedV; rw [if_neg (by first | omega | assumption), if_neg (by first | omega | assumption)], rfl, by unfold gpricedM; rw [if_neg (by first | omega | assumption), if_neg (by first | omega | assumption)]⟩
    · try have h24 := bi_1.mp h24
      refine r_iload_n dX10_priced_27 rfl ?_
      refine r_if_lt (tgt := 38) dX10_priced_28 (by decide) (fun h28 => ?_) (fun h28 => ?_)
      · refine r_bipush dX10_priced_38 (by decide) (by decide) ?_
        refine r_iret dX10_priced_40 rfl ?_
        first | (exfalso; omega) | exact ⟨by unfold gpricedV; rw [if_pos (by first | omega | assumption)], rfl, by unfold gpricedM; rw [if_pos (by first | omega | assumption)]⟩ | exact ⟨by unfold gpricedV; rw [if_neg (by first | omega | assumption), if_pos (by first | omega | assumption)], rfl, by unfold gpricedM; rw [if_neg (by first | omega | assumption), if_pos (by first | omega | assumption)]⟩ | exact ⟨by unfold gpricedV; rw [if_neg (by first | omega | assumption), if_neg (by first | omega | assumption)], rfl, by unfold gpricedM; rw [if_neg (by first | omega | assumption), if_neg (by first | omega | assumption)]⟩
      · refine r_iload_n dX10_priced_31 rfl ?_
        refine r_sipush dX10_priced_32 (by decide) (by decide) ?_
        refine r_icmp_le (tgt := 41) dX10_priced_35 (by decide) (fun h35 => ?_) (fun h35 => ?_)
        · refine r_aload_n dX10_priced_41 rfl (by decide) ?_
          refine r_getr (x := 49) dX10_priced_42 flX10_52 sf0 (by decide) (by decide) rfl rfl ?_
          refine r_getr (x := 235) dX10_priced_45 flX10_305 sf49 (by decide) (by decide) rfl rfl ?_
          refine r_iload_n dX10_priced_48 rfl ?_
          refine r_iload_n dX10_priced_49 rfl ?_
          refine r_iconst dX10_priced_50 (by decide) ?_
          refine r_cv3 dX10_priced_51 clX10_222 sf235 (by decide) (by decide) rfl (by first | decide | omega) (Nat.le_of_ble_eq_true rfl) ((c_apriced hb)) ⟨Nat.zero_le _, Nat.zero_le _⟩ (fun _ => ?_)
          refine r_iret dX10_priced_54 rfl ?_
          first | (exfalso; omega) | exact ⟨by unfold gpricedV; rw [if_pos (by first | omega | assumption)], rfl, by unfold gpricedM; rw [if_pos (by first | omega | assumption)]⟩ | exact ⟨by unfold gpricedV; rw [if_neg (by first | omega | assumption), if_pos (by first | omega | assumption)], rfl, by unfold gpricedM; rw [if_neg (by first | omega | assumption), if_pos (by first | omega | assumption)]⟩ | exact ⟨by unfold gpricedV; rw [if_neg (by first | omega | assumption), if_neg (by first | omega | assumption)], rfl, by unfold gpricedM; rw [if_neg (by first | omega | assumption), if_neg (by first | omega | assumption)]⟩
        · refine r_bipush dX10_priced_38 (by decide) (by decide) ?_
          refine r_iret dX10_priced_40 rfl ?_
          first | (exfalso; omega) | exact ⟨by unfold gpricedV; rw [if_pos (by first | omega | assumption)], rfl, by unfold gpricedM; rw [if_pos (by first | omega | assumption)]⟩ | exact ⟨by unfold gpricedV; rw [if_neg (by first | omega | assumption), if_pos (by first | omega | assumption)], rfl, by unfold gpricedM; rw [if_neg (by first | omega | assumption), if_pos (by first | omega | assumption)]⟩ | exact ⟨by unfold gpricedV; rw [if_neg (by first | omega | assumption), if_neg (by first | omega | assumption)], rfl, by unfold gpricedM; rw [if_neg (by first | omega | assumption), if_neg (by first | omega | assumption)]⟩
  · refine r_aload_n dX10_priced_5 rfl (by decide) ?_
    refine r_getr (x := 49) dX10_priced_6 flX10_52 sf0 (by decide) (by decide) rfl rfl ?_
    refine r_getr (x := 235) dX10_priced_9 flX10_305 sf49 (by decide) (by decide) rfl rfl ?_
    refine r_cv0 dX10_priced_12 clX10_217 sf235 (by decide) (by decide) rfl (by first | decide | omega) (Nat.le_of_ble_eq_true rfl) (t_empty_paid) ⟨Nat.zero_le _, Nat.zero_le _⟩ (fun _ => ?_)
    refine r_iret dX10_priced_15 rfl ?_
    first | (exfalso; omega) | exact ⟨by unfold gpricedV; rw [if_pos (by first | omega | assumption)], rfl, by unfold gpricedM; rw [if_pos (by first | omega | assumption)]⟩ | exact ⟨by unfold gpricedV; rw [if_neg (by first | omega | assumption), if_pos (by first | omega | assumption)], rfl, by unfold gpricedM; rw [if_neg (by first | omega | assumption), if_pos (by first | omega | assumption)]⟩ | exact ⟨by unfold gpricedV; rw [if_neg (by first | omega | assumption), if_neg (by first | omega | assumption)], rfl, by unfold gpricedM; rw [if_neg (by first | omega | assumption), if_neg (by first | omega | assumption)]⟩
