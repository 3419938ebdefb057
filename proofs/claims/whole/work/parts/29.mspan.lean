/-- a DEPTH, hour by hour -/
def foA (M : Me) (c h : Int) : Nat → Int
  | 0 => M 430 (15 + 7 * c + 0)
  | k + 1 => if ((h + k) % 10 = 9 ∧ M 430 (15 + 7 * c + 1) = 0) ∧ foA M c h k < M 430 (15 + 7 * c + 4) then foA M c h k + 1 else foA M c h k + 0
theorem foA_t {M : Me} {c h : Int} {k : Nat} (q : ((h + k) % 10 = 9 ∧ M 430 (15 + 7 * c + 1) = 0) ∧ foA M c h k < M 430 (15 + 7 * c + 4)) : foA M c h (k + 1) = foA M c h k + 1 := if_pos q
theorem foA_f {M : Me} {c h : Int} {k : Nat} (q : ¬ (((h + k) % 10 = 9 ∧ M 430 (15 + 7 * c + 1) = 0) ∧ foA M c h k < M 430 (15 + 7 * c + 4))) : foA M c h (k + 1) = foA M c h k + 0 := if_neg q
theorem foA_b {M : Me} {c h : Int} (hd : 0 ≤ M 430 (15 + 7 * c + 0) ∧ M 430 (15 + 7 * c + 0) ≤ 9) : ∀ k : Nat, 0 ≤ foA M c h k ∧ foA M c h k ≤ 9 + k := by
  intro k
  induction k with
  | zero => exact (show 0 ≤ M 430 (15 + 7 * c + 0) ∧ M 430 (15 + 7 * c + 0) ≤ 9 + ((0 : Nat) : Int) by omega)
  | succ k ih =>
    by_cases q : ((h + k) % 10 = 9 ∧ M 430 (15 + 7 * c + 1) = 0) ∧ foA M c h k < M 430 (15 + 7 * c + 4)
    · rw [foA_t q]; omega
    · rw [foA_f q]; omega
theorem l_foretold {x y z : Int} {M : Me} {n c : Int} {k : Nat} (hk : (k : Int) = min n (9999 - M 430 10)) (h10 : 0 ≤ M 430 10 ∧ M 430 10 ≤ 9999) (hnn : 1 ≤ n ∧ n ≤ 60) (hc : 0 ≤ c ∧ c < 12) (hd : 0 ≤ M 430 (15 + 7 * c + 0) ∧ M 430 (15 + 7 * c + 0) ≤ 9) : ∀ (m i : Nat), m + i = k → V kX11_foretold 0 0 2 none (Ex (some (0, foA M c (M 430 10) k)) (Sf x y z) M) 36 [(1, 429), (0, n), (0, c), (0, foA M c (M 430 10) i), (0, M 430 10 + (i : Int))] [] (Sf x y z) M 0 0 := by
  intro m
  induction m with
  | zero =>
    intro i hi
    obtain rfl : i = k := by omega
    have hb := foA_b (h := M 430 10) hd i
    refine r_iload dX11_foretold_36 rfl ?_
    refine r_aload_n dX11_foretold_38 rfl (by decide) ?_
    refine r_getr (x := 430) dX11_foretold_39 flX11_7 sf429 (by decide) (by decide) rfl rfl ?_
    refine r_bipush dX11_foretold_42 (by decide) (by decide) ?_
    refine r_iald dX11_foretold_44 sf430 (by decide) (by omega) (by omega) (by decide) (by first | assumption | ((repeat (first | (apply rd_ne; · omega) | (apply rd_eq; · omega) | (apply rd_out; · omega) | (apply rd_in; · omega))); first | assumption | rfl)) ?_
    refine r_iload_n dX11_foretold_45 rfl ?_
    refine r_iadd dX11_foretold_46 (w32_id (by omega)) ?_
    refine r_icmp_ge (tgt := 100) dX11_foretold_47 (by decide) (fun h47 => ?_) (fun h47 => ?_)
    · refine r_iload_n dX11_foretold_100 rfl ?_
      refine r_iret dX11_foretold_101 rfl ?_
      exact Ex.rf
    · have h47x := h47
      refine r_iload dX11_foretold_50 rfl ?_
      refine r_sipush dX11_foretold_52 (by decide) (by decide) ?_
      refine r_icmp_ge (tgt := 100) dX11_foretold_55 (by decide) (fun h55 => ?_) (fun h55 => ?_)
      · refine r_iload_n dX11_foretold_100 rfl ?_
        refine r_iret dX11_foretold_101 rfl ?_
        exact Ex.rf
      · exfalso; omega
  | succ m ih =>
    intro i hi
    have hb := foA_b (h := M 430 10) hd i
    refine r_iload dX11_foretold_36 rfl ?_
    refine r_aload_n dX11_foretold_38 rfl (by decide) ?_
    refine r_getr (x := 430) dX11_foretold_39 flX11_7 sf429 (by decide) (by decide) rfl rfl ?_
    refine r_bipush dX11_foretold_42 (by decide) (by decide) ?_
    refine r_iald dX11_foretold_44 sf430 (by decide) (by omega) (by omega) (by decide) (by first | assumption | ((repeat (first | (apply rd_ne; · omega) | (apply rd_eq; · omega) | (apply rd_out; · omega) | (apply rd_in; · omega))); first | assumption | rfl)) ?_
    refine r_iload_n dX11_foretold_45 rfl ?_
    refine r_iadd dX11_foretold_46 (w32_id (by omega)) ?_
    refine r_icmp_ge (tgt := 100) dX11_foretold_47 (by decide) (fun h47 => by exfalso; omega) (fun h47 => ?_)
    refine r_iload dX11_foretold_50 rfl ?_
    refine r_sipush dX11_foretold_52 (by decide) (by decide) ?_
    refine r_icmp_ge (tgt := 100) dX11_foretold_55 (by decide) (fun h55 => by exfalso; omega) (fun h55 => ?_)
    refine r_iload_n dX11_foretold_58 rfl ?_
    refine r_iload dX11_foretold_59 rfl ?_
    refine r_bipush dX11_foretold_61 (by decide) (by decide) ?_
    refine r_irem dX11_foretold_63 (by omega) (rmn (by omega)) ?_
    refine r_bipush dX11_foretold_64 (by decide) (by decide) ?_
    refine r_icmp_ne (tgt := 91) dX11_foretold_66 (by decide) (fun h66 => ?_) (fun h66 => ?_)
    · refine r_iconst dX11_foretold_91 (by decide) ?_
      refine r_iadd dX11_foretold_92 (w32_id (by omega)) ?_
      refine r_istore_n dX11_foretold_93 rfl (by decide) st3 ?_
      refine r_iinc dX11_foretold_94 rfl rfl (by decide) (w32_id (by omega)) st4 ?_
      refine r_goto (tgt := 36) dX11_foretold_97 (by decide) ?_
      first | exact V.al (by rw [foA_t (by omega), show M 430 10 + (i : Int) + 1 = M 430 10 + ((i + 1 : Nat) : Int) by omega]) (ih (i + 1) (by omega)) | exact V.al (by rw [foA_f (by omega), show M 430 10 + (i : Int) + 1 = M 430 10 + ((i + 1 : Nat) : Int) by omega]) (ih (i + 1) (by omega))
    · refine r_aload_n dX11_foretold_69 rfl (by decide) ?_
      refine r_iload_n dX11_foretold_70 rfl ?_
      refine r_cv1 dX11_foretold_71 clX11_70 sf429 (by decide) (by decide) rfl (by first | decide | omega) (Nat.le_of_ble_eq_true rfl) (c_isThere (by omega)) ⟨Nat.zero_le _, Nat.zero_le _⟩ (fun _ => ?_)
      refine r_if_eq (tgt := 91) dX11_foretold_74 (by decide) (fun h74 => ?_) (fun h74 => ?_)
      · try have h74 := bi_0.mp h74
        refine r_iconst dX11_foretold_91 (by decide) ?_
        refine r_iadd dX11_foretold_92 (w32_id (by omega)) ?_
        refine r_istore_n dX11_foretold_93 rfl (by decide) st3 ?_
        refine r_iinc dX11_foretold_94 rfl rfl (by decide) (w32_id (by omega)) st4 ?_
        refine r_goto (tgt := 36) dX11_foretold_97 (by decide) ?_
        first | exact V.al (by rw [foA_t (by omega), show M 430 10 + (i : Int) + 1 = M 430 10 + ((i + 1 : Nat) : Int) by omega]) (ih (i + 1) (by omega)) | exact V.al (by rw [foA_f (by omega), show M 430 10 + (i : Int) + 1 = M 430 10 + ((i + 1 : Nat) : Int) by omega]) (ih (i + 1) (by omega))
      · try have h74 := bi_1.mp h74
        refine r_iload_n dX11_foretold_77 rfl ?_
        refine r_aload_n dX11_foretold_78 rfl (by decide) ?_
        refine r_iload_n dX11_foretold_79 rfl ?_
        refine r_iconst dX11_foretold_80 (by decide) ?_
        refine r_cv2 dX11_foretold_81 clX11_66 sf429 (by decide) (by decide) rfl (by first | decide | omega) (Nat.le_of_ble_eq_true rfl) (c_get (by omega) (by decide)) ⟨Nat.zero_le _, Nat.zero_le _⟩ (fun _ => ?_)
        refine r_icmp_ge (tgt := 91) dX11_foretold_84 (by decide) (fun h84 => ?_) (fun h84 => ?_)
        · refine r_iconst dX11_foretold_91 (by decide) ?_
          refine r_iadd dX11_foretold_92 (w32_id (by omega)) ?_
          refine r_istore_n dX11_foretold_93 rfl (by decide) st3 ?_
          refine r_iinc dX11_foretold_94 rfl rfl (by decide) (w32_id (by omega)) st4 ?_
          refine r_goto (tgt := 36) dX11_foretold_97 (by decide) ?_
          first | exact V.al (by rw [foA_t (by omega), show M 430 10 + (i : Int) + 1 = M 430 10 + ((i + 1 : Nat) : Int) by omega]) (ih (i + 1) (by omega)) | exact V.al (by rw [foA_f (by omega), show M 430 10 + (i : Int) + 1 = M 430 10 + ((i + 1 : Nat) : Int) by omega]) (ih (i + 1) (by omega))
        · refine r_iconst dX11_foretold_87 (by decide) ?_
          refine r_goto (tgt := 92) dX11_foretold_88 (by decide) ?_
          refine r_iadd dX11_foretold_92 (w32_id (by omega)) ?_
          refine r_istore_n dX11_foretold_93 rfl (by decide) st3 ?_
          refine r_iinc dX11_foretold_94 rfl rfl (by decide) (w32_id (by omega)) st4 ?_
          refine r_goto (tgt := 36) dX11_foretold_97 (by decide) ?_
          first | exact V.al (by rw [foA_t (by omega), show M 430 10 + (i : Int) + 1 = M 430 10 + ((i + 1 : Nat) : Int) by omega]) (ih (i + 1) (by omega)) | exact V.al (by rw [foA_f (by omega), show M 430 10 + (i : Int) + 1 = M 430 10 + ((i + 1 : Nat) : Int) by omega]) (ih (i + 1) (by omega))
theorem m_foretold {x y z : Int} {M : Me} {n c : Int} (h14 : 0 ≤ M 430 14 ∧ M 430 14 ≤ 12) (h10 : 0 ≤ M 430 10 ∧ M 430 10 ≤ 9999) (hd : ∀ c : Int, 0 ≤ c → c < M 430 14 → 0 ≤ M 430 (15 + 7 * c + 0) ∧ M 430 (15 + 7 * c + 0) ≤ 9) : Con kX11_foretold 2 0 0 [(1, 429), (0, n), (0, c)] (Sf x y z) M (fun v9 S9 M9 => S9 = (Sf x y z) ∧ (((1 ≤ n ∧ n ≤ 60) ∧ (0 ≤ c ∧ c ≤ M 430 14 - 1)) ∧ v9 = some (0, foA M c (M 430 10) (min n (9999 - M 430 10)).toNat) ∧ M9 = M ∨ (¬ ((1 ≤ n ∧ n ≤ 60) ∧ (0 ≤ c ∧ c ≤ M 430 14 - 1))) ∧ v9 = some (0, -1) ∧ M9 = M)) := by
  refine Con.ofV (al := [(1, 429), (0, n), (0, c), (9, 0), (9, 0)]) 2 (by decide) (Nat.le_of_ble_eq_true rfl) rfl ?_
  refine r_iload_n dX11_foretold_0 rfl ?_
  refine r_iconst dX11_foretold_1 (by decide) ?_
  refine r_bipush dX11_foretold_2 (by decide) (by decide) ?_
  refine r_cs3 dX11_foretold_4 clX11_62 (by first | decide | omega) (Nat.le_of_ble_eq_true rfl) (c_isIn) ⟨Nat.zero_le _, Nat.zero_le _⟩ (fun _ => ?_)
  refine r_if_eq (tgt := 18) dX11_foretold_7 (by decide) (fun h7 => ?_) (fun h7 => ?_)
  · try have h7 := bi_0.mp h7
    refine r_iconst dX11_foretold_18 (by decide) ?_
    refine r_iret dX11_foretold_19 rfl ?_
    first | exact ⟨rfl, Or.inl ⟨by omega, rfl, rfl⟩⟩ | exact ⟨rfl, Or.inr (⟨by omega, rfl, rfl⟩)⟩
  · try have h7 := bi_1.mp h7
    refine r_aload_n dX11_foretold_10 rfl (by decide) ?_
    refine r_iload_n dX11_foretold_11 rfl ?_
    refine r_cv1 dX11_foretold_12 clX11_81 sf429 (by decide) (by decide) rfl (by first | decide | omega) (Nat.le_of_ble_eq_true rfl) (m_isCrease h14) ⟨Nat.zero_le _, Nat.zero_le _⟩ (fun _ => ?_)
    refine r_if_ne (tgt := 20) dX11_foretold_15 (by decide) (fun h15 => ?_) (fun h15 => ?_)
    · try have h15 := bi_1.mp h15
      refine r_aload_n dX11_foretold_20 rfl (by decide) ?_
      refine r_iload_n dX11_foretold_21 rfl ?_
      refine r_iconst dX11_foretold_22 (by decide) ?_
      refine r_cv2 dX11_foretold_23 clX11_66 sf429 (by decide) (by decide) rfl (by first | decide | omega) (Nat.le_of_ble_eq_true rfl) (c_get (by omega) (by decide)) ⟨Nat.zero_le _, Nat.zero_le _⟩ (fun _ => ?_)
      refine r_istore_n dX11_foretold_26 rfl (by decide) st3 ?_
      refine r_aload_n dX11_foretold_27 rfl (by decide) ?_
      refine r_getr (x := 430) dX11_foretold_28 flX11_7 sf429 (by decide) (by decide) rfl rfl ?_
      refine r_bipush dX11_foretold_31 (by decide) (by decide) ?_
      refine r_iald dX11_foretold_33 sf430 (by decide) (by omega) (by omega) (by decide) (by first | assumption | ((repeat (first | (apply rd_ne; · omega) | (apply rd_eq; · omega) | (apply rd_out; · omega) | (apply rd_in; · omega))); first | assumption | rfl)) ?_
      refine r_istore dX11_foretold_34 rfl (by decide) st4 ?_
      refine V.mono (V.al (al2 := [(1, 429), (0, n), (0, c), (0, foA M c (M 430 10) 0), (0, M 430 10 + ((0 : Nat) : Int))]) (by rw [show M 430 10 + ((0 : Nat) : Int) = M 430 10 by omega]; rfl) (l_foretold (k := (min n (9999 - M 430 10)).toNat) (by omega) h10 (by omega) (by omega) (hd c (by omega) (by omega)) (min n (9999 - M 430 10)).toNat 0 (by omega))) (fun v9 S9 M9 h => ⟨h.2.1, Or.inl ⟨by omega, h.1, h.2.2⟩⟩)
    · try have h15 := bi_0.mp h15
      refine r_iconst dX11_foretold_18 (by decide) ?_
      refine r_iret dX11_foretold_19 rfl ?_
      first | exact ⟨rfl, Or.inl ⟨by omega, rfl, rfl⟩⟩ | exact ⟨rfl, Or.inr (⟨by omega, rfl, rfl⟩)⟩
theorem l_isCreased {x y z : Int} {M : Me} {p y9 : Int} {n : Nat} (hn : M 430 14 = (n : Int)) (hn12 : n ≤ 12) : ∀ (m i : Nat), m + i = n → ¬ (∃ j : Nat, j < i ∧ (M 430 (15 + 7 * (j : Int) + 2) = p ∧ M 430 (15 + 7 * (j : Int) + 1) = 0 ∧ M 430 (15 + 7 * (j : Int) + 3) = y9)) → V kX11_isCreased 0 0 2 none (Ex (some (0, bic (∃ j : Nat, j < n ∧ (M 430 (15 + 7 * (j : Int) + 2) = p ∧ M 430 (15 + 7 * (j : Int) + 1) = 0 ∧ M 430 (15 + 7 * (j : Int) + 3) = y9)))) (Sf x y z) M) 2 [(1, 429), (0, p), (0, y9), (0, (i : Int))] [] (Sf x y z) M 0 0 := by
  intro m
  induction m with
  | zero =>
    intro i hi hq
    obtain rfl : i = n := by omega
    refine r_iload_n dX11_isCreased_2 rfl ?_
    refine r_aload_n dX11_isCreased_3 rfl (by decide) ?_
    refine r_getr (x := 430) dX11_isCreased_4 flX11_7 sf429 (by decide) (by decide) rfl rfl ?_
    refine r_bipush dX11_isCreased_7 (by decide) (by decide) ?_
    refine r_iald dX11_isCreased_9 sf430 (by decide) (by omega) (by omega) (by decide) hn ?_
    refine r_icmp_ge (tgt := 49) dX11_isCreased_10 (by decide) (fun h10 => ?_) (fun h10 => by exfalso; omega)
    refine r_iconst dX11_isCreased_49 (by decide) ?_
    refine r_zret dX11_isCreased_50 rfl (by omega) ?_
    exact ⟨by rw [bic_f hq], rfl, rfl⟩
  | succ m ih =>
    intro i hi hq
    refine r_iload_n dX11_isCreased_2 rfl ?_
    refine r_aload_n dX11_isCreased_3 rfl (by decide) ?_
    refine r_getr (x := 430) dX11_isCreased_4 flX11_7 sf429 (by decide) (by decide) rfl rfl ?_
    refine r_bipush dX11_isCreased_7 (by decide) (by decide) ?_
    refine r_iald dX11_isCreased_9 sf430 (by decide) (by omega) (by omega) (by decide) hn ?_
    refine r_icmp_ge (tgt := 49) dX11_isCreased_10 (by decide) (fun h10 => by exfalso; omega) (fun h10 => ?_)
    refine r_aload_n dX11_isCreased_13 rfl (by decide) ?_
    refine r_iload_n dX11_isCreased_14 rfl ?_
    refine r_iconst dX11_isCreased_15 (by decide) ?_
    refine r_cv2 dX11_isCreased_16 clX11_66 sf429 (by decide) (by decide) rfl (by first | decide | omega) (Nat.le_of_ble_eq_true rfl) (c_get (by omega) (by decide)) ⟨Nat.zero_le _, Nat.zero_le _⟩ (fun _ => ?_)
    refine r_iload_n dX11_isCreased_19 rfl ?_
    refine r_icmp_ne (tgt := 43) dX11_isCreased_20 (by decide) (fun h20 => ?_) (fun h20 => ?_)
    · refine r_iinc dX11_isCreased_43 rfl rfl (by decide) (w32_id (by omega)) st3 ?_
      refine r_goto (tgt := 2) dX11_isCreased_46 (by decide) ?_
      refine ih (i + 1) (by omega) ?_
      rintro ⟨j, q1, q2⟩
      by_cases e : j = i
      · subst e; omega
      · exact hq ⟨j, by omega, q2⟩
    · refine r_aload_n dX11_isCreased_23 rfl (by decide) ?_
      refine r_iload_n dX11_isCreased_24 rfl ?_
      refine r_cv1 dX11_isCreased_25 clX11_70 sf429 (by decide) (by decide) rfl (by first | decide | omega) (Nat.le_of_ble_eq_true rfl) (c_isThere (by omega)) ⟨Nat.zero_le _, Nat.zero_le _⟩ (fun _ => ?_)
      refine r_if_eq (tgt := 43) dX11_isCreased_28 (by decide) (fun h28 => ?_) (fun h28 => ?_)
      · try have h28 := bi_0.mp h28
        refine r_iinc dX11_isCreased_43 rfl rfl (by decide) (w32_id (by omega)) st3 ?_
        refine r_goto (tgt := 2) dX11_isCreased_46 (by decide) ?_
        refine ih (i + 1) (by omega) ?_
        rintro ⟨j, q1, q2⟩
        by_cases e : j = i
        · subst e; omega
        · exact hq ⟨j, by omega, q2⟩
      · try have h28 := bi_1.mp h28
        refine r_aload_n dX11_isCreased_31 rfl (by decide) ?_
        refine r_iload_n dX11_isCreased_32 rfl ?_
        refine r_iconst dX11_isCreased_33 (by decide) ?_
        refine r_cv2 dX11_isCreased_34 clX11_66 sf429 (by decide) (by decide) rfl (by first | decide | omega) (Nat.le_of_ble_eq_true rfl) (c_get (by omega) (by decide)) ⟨Nat.zero_le _, Nat.zero_le _⟩ (fun _ => ?_)
        refine r_iload_n dX11_isCreased_37 rfl ?_
        refine r_icmp_ne (tgt := 43) dX11_isCreased_38 (by decide) (fun h38 => ?_) (fun h38 => ?_)
        · refine r_iinc dX11_isCreased_43 rfl rfl (by decide) (w32_id (by omega)) st3 ?_
          refine r_goto (tgt := 2) dX11_isCreased_46 (by decide) ?_
          refine ih (i + 1) (by omega) ?_
          rintro ⟨j, q1, q2⟩
          by_cases e : j = i
          · subst e; omega
          · exact hq ⟨j, by omega, q2⟩
        · refine r_iconst dX11_isCreased_41 (by decide) ?_
          refine r_zret dX11_isCreased_42 rfl (by omega) ?_
          exact ⟨by rw [bic_t ⟨i, by omega, by assumption, by assumption, by assumption⟩], rfl, rfl⟩
theorem m_isCreased {x y z : Int} {M : Me} {p y9 : Int} {n : Nat} (hn : M 430 14 = (n : Int)) (hn12 : n ≤ 12) : Con kX11_isCreased 2 0 0 [(1, 429), (0, p), (0, y9)] (Sf x y z) M (Ex (some (0, bic (∃ j : Nat, j < n ∧ (M 430 (15 + 7 * (j : Int) + 2) = p ∧ M 430 (15 + 7 * (j : Int) + 1) = 0 ∧ M 430 (15 + 7 * (j : Int) + 3) = y9)))) (Sf x y z) M) := by
  refine Con.ofV (al := [(1, 429), (0, p), (0, y9), (9, 0)]) 1 (by decide) (Nat.le_of_ble_eq_true rfl) rfl ?_
  refine r_iconst dX11_isCreased_0 (by decide) ?_
  refine r_istore_n dX11_isCreased_1 rfl (by decide) st3 ?_
  exact l_isCreased hn hn12 n 0 (by omega) (fun ⟨j, q, _⟩ => absurd q (by omega))
def crA (M : Me) (n : Nat) (p y : Int) : Prop := ∃ j : Nat, j < n ∧ (M 430 (15 + 7 * (j : Int) + 2) = p ∧ M 430 (15 + 7 * (j : Int) + 1) = 0 ∧ M 430 (15 + 7 * (j : Int) + 3) = y)
/-- the span that runs, and the longest -/
noncomputable def spn (cr : Int → Prop) : Nat → Int × Int
  | 0 => (0, 0)
  | y + 1 => let w := @ite Int (cr y) (Classical.propDecidable _) 0 ((spn cr y).2 + 1); (if (spn cr y).1 < w then w else (spn cr y).1, w)
theorem spn_2t {cr : Int → Prop} {y : Nat} (h : cr y) : (spn cr (y + 1)).2 = 0 := cit_t h
theorem spn_2f {cr : Int → Prop} {y : Nat} (h : ¬ cr y) : (spn cr (y + 1)).2 = (spn cr y).2 + 1 := cit_f h
theorem spn_1 {cr : Int → Prop} {y : Nat} : (spn cr (y + 1)).1 = if (spn cr y).1 < (spn cr (y + 1)).2 then (spn cr (y + 1)).2 else (spn cr y).1 := rfl
theorem spn_b {cr : Int → Prop} : ∀ y : Nat, 0 ≤ (spn cr y).2 ∧ (spn cr y).2 ≤ y ∧ 0 ≤ (spn cr y).1 ∧ (spn cr y).1 ≤ y := by
  intro y
  induction y with
  | zero => exact (show 0 ≤ (0 : Int) ∧ (0 : Int) ≤ ((0 : Nat) : Int) ∧ 0 ≤ (0 : Int) ∧ (0 : Int) ≤ ((0 : Nat) : Int) by omega)
  | succ y ih =>
    have h2 : 0 ≤ (spn cr (y + 1)).2 ∧ (spn cr (y + 1)).2 ≤ ((y + 1 : Nat) : Int) := by
      by_cases h : cr y
      · rw [spn_2t h]; omega
      · rw [spn_2f h]; omega
    refine ⟨h2.1, h2.2, ?_⟩
    rw [spn_1]
    split <;> omega
theorem l_spanOf {x y z : Int} {M : Me} {p : Int} {n : Nat} (hn : M 430 14 = (n : Int)) (hn12 : n ≤ 12) : ∀ (m i : Nat), m + i = 100 → V kX11_spanOf 0 0 3 none (Ex (some (0, (spn (crA M n p) 100).1)) (Sf x y z) M) 7 [(1, 429), (0, p), (0, (spn (crA M n p) i).1), (0, (spn (crA M n p) i).2), (0, (i : Int))] [] (Sf x y z) M 0 0 := by
  intro m
  induction m with
  | zero =>
    intro i hi
    obtain rfl : i = 100 := by omega
    refine r_iload dX11_spanOf_7 rfl ?_
    refine r_bipush dX11_spanOf_9 (by decide) (by decide) ?_
    refine r_icmp_ge (tgt := 49) dX11_spanOf_11 (by decide) (fun h11 => ?_) (fun h11 => by exfalso; omega)
    refine r_iload_n dX11_spanOf_49 rfl ?_
    refine r_iret dX11_spanOf_50 rfl ?_
    exact Ex.rf
  | succ m ih =>
    intro i hi
    have hb := spn_b (cr := crA M n p) i
    refine r_iload dX11_spanOf_7 rfl ?_
    refine r_bipush dX11_spanOf_9 (by decide) (by decide) ?_
    refine r_icmp_ge (tgt := 49) dX11_spanOf_11 (by decide) (fun h11 => by exfalso; omega) (fun h11 => ?_)
    refine r_aload_n dX11_spanOf_14 rfl (by decide) ?_
    refine r_iload_n dX11_spanOf_15 rfl ?_
    refine r_iload dX11_spanOf_16 rfl ?_
    refine r_cv2 dX11_spanOf_18 clX11_384 sf429 (by decide) (by decide) rfl (by first | decide | omega) (Nat.le_of_ble_eq_true rfl) (m_isCreased hn hn12) ⟨Nat.zero_le _, Nat.zero_le _⟩ (fun _ => ?_)
    refine r_if_eq (tgt := 28) dX11_spanOf_21 (by decide) (fun h21 => ?_) (fun h21 => ?_)
    · have h21 : ¬ crA M n p i := bic_0 h21
      refine r_iload_n dX11_spanOf_28 rfl ?_
      refine r_iconst dX11_spanOf_29 (by decide) ?_
      refine r_iadd dX11_spanOf_30 (w32_id (by omega)) ?_
      refine r_istore_n dX11_spanOf_31 rfl (by decide) st3 ?_
      refine r_iload_n dX11_spanOf_32 rfl ?_
      refine r_iload_n dX11_spanOf_33 rfl ?_
      refine r_icmp_le (tgt := 41) dX11_spanOf_34 (by decide) (fun h34 => ?_) (fun h34 => ?_)
      · refine r_iload_n dX11_spanOf_41 rfl ?_
        refine r_istore_n dX11_spanOf_42 rfl (by decide) st2 ?_
        refine r_iinc dX11_spanOf_43 rfl rfl (by decide) (w32_id (by omega)) st4 ?_
        refine r_goto (tgt := 7) dX11_spanOf_46 (by decide) ?_
        first | exact V.al (by rw [spn_1, spn_2t (by assumption), if_pos (by omega)]; rfl) (ih (i + 1) (by omega)) | exact V.al (by rw [spn_1, spn_2t (by assumption), if_neg (by omega)]; rfl) (ih (i + 1) (by omega)) | exact V.al (by rw [spn_1, spn_2f (by assumption), if_pos (by omega)]; rfl) (ih (i + 1) (by omega)) | exact V.al (by rw [spn_1, spn_2f (by assumption), if_neg (by omega)]; rfl) (ih (i + 1) (by omega))
      · refine r_iload_n dX11_spanOf_37 rfl ?_
        refine r_goto (tgt := 42) dX11_spanOf_38 (by decide) ?_
        refine r_istore_n dX11_spanOf_42 rfl (by decide) st2 ?_
        refine r_iinc dX11_spanOf_43 rfl rfl (by decide) (w32_id (by omega)) st4 ?_
        refine r_goto (tgt := 7) dX11_spanOf_46 (by decide) ?_
        first | exact V.al (by rw [spn_1, spn_2t (by assumption), if_pos (by omega)]; rfl) (ih (i + 1) (by omega)) | exact V.al (by rw [spn_1, spn_2t (by assumption), if_neg (by omega)]; rfl) (ih (i + 1) (by omega)) | exact V.al (by rw [spn_1, spn_2f (by assumption), if_pos (by omega)]; rfl) (ih (i + 1) (by omega)) | exact V.al (by rw [spn_1, spn_2f (by assumption), if_neg (by omega)]; rfl) (ih (i + 1) (by omega))
    · have h21 : crA M n p i := bic_1 h21
      refine r_iconst dX11_spanOf_24 (by decide) ?_
      refine r_goto (tgt := 31) dX11_spanOf_25 (by decide) ?_
      refine r_istore_n dX11_spanOf_31 rfl (by decide) st3 ?_
      refine r_iload_n dX11_spanOf_32 rfl ?_
      refine r_iload_n dX11_spanOf_33 rfl ?_
      refine r_icmp_le (tgt := 41) dX11_spanOf_34 (by decide) (fun h34 => ?_) (fun h34 => ?_)
      · refine r_iload_n dX11_spanOf_41 rfl ?_
        refine r_istore_n dX11_spanOf_42 rfl (by decide) st2 ?_
        refine r_iinc dX11_spanOf_43 rfl rfl (by decide) (w32_id (by omega)) st4 ?_
        refine r_goto (tgt := 7) dX11_spanOf_46 (by decide) ?_
        first | exact V.al (by rw [spn_1, spn_2t (by assumption), if_pos (by omega)]; rfl) (ih (i + 1) (by omega)) | exact V.al (by rw [spn_1, spn_2t (by assumption), if_neg (by omega)]; rfl) (ih (i + 1) (by omega)) | exact V.al (by rw [spn_1, spn_2f (by assumption), if_pos (by omega)]; rfl) (ih (i + 1) (by omega)) | exact V.al (by rw [spn_1, spn_2f (by assumption), if_neg (by omega)]; rfl) (ih (i + 1) (by omega))
      · refine r_iload_n dX11_spanOf_37 rfl ?_
        refine r_goto (tgt := 42) dX11_spanOf_38 (by decide) ?_
        refine r_istore_n dX11_spanOf_42 rfl (by decide) st2 ?_
        refine r_iinc dX11_spanOf_43 rfl rfl (by decide) (w32_id (by omega)) st4 ?_
        refine r_goto (tgt := 7) dX11_spanOf_46 (by decide) ?_
        first | exact V.al (by rw [spn_1, spn_2t (by assumption), if_pos (by omega)]; rfl) (ih (i + 1) (by omega)) | exact V.al (by rw [spn_1, spn_2t (by assumption), if_neg (by omega)]; rfl) (ih (i + 1) (by omega)) | exact V.al (by rw [spn_1, spn_2f (by assumption), if_pos (by omega)]; rfl) (ih (i + 1) (by omega)) | exact V.al (by rw [spn_1, spn_2f (by assumption), if_neg (by omega)]; rfl) (ih (i + 1) (by omega))
theorem m_spanOf {x y z : Int} {M : Me} {p : Int} {n : Nat} (hn : M 430 14 = (n : Int)) (hn12 : n ≤ 12) : Con kX11_spanOf 3 0 0 [(1, 429), (0, p)] (Sf x y z) M (Ex (some (0, (spn (crA M n p) 100).1)) (Sf x y z) M) := by
  refine Con.ofV (al := [(1, 429), (0, p), (9, 0), (9, 0), (9, 0)]) 3 (by decide) (Nat.le_of_ble_eq_true rfl) rfl ?_
  refine r_iconst dX11_spanOf_0 (by decide) ?_
  refine r_istore_n dX11_spanOf_1 rfl (by decide) st2 ?_
  refine r_iconst dX11_spanOf_2 (by decide) ?_
  refine r_istore_n dX11_spanOf_3 rfl (by decide) st3 ?_
  refine r_iconst dX11_spanOf_4 (by decide) ?_
  refine r_istore dX11_spanOf_5 rfl (by decide) st4 ?_
  exact l_spanOf hn hn12 100 0 (by omega)
theorem m_shared {x y z : Int} {M : Me} {p q : Int} (h0 : 0 ≤ M 430 0 ∧ M 430 0 ≤ 5) {n : Nat} (hn : M 430 14 = (n : Int)) (hn12 : n ≤ 12) (hy : ∀ c : Int, 0 ≤ c → c < n → 0 ≤ M 430 (15 + 7 * c + 3) ∧ M 430 (15 + 7 * c + 3) ≤ 99) : Con kX11_shared 3 0 0 [(1, 429), (0, p), (0, q)] (Sf x y z) M (fun v9 S9 M9 => S9 = (Sf x y z) ∧ (((0 ≤ p ∧ p ≤ M 430 0 - 1) ∧ (0 ≤ q ∧ q ≤ M 430 0 - 1) ∧ p ≠ q) ∧ v9 = some (0, and32 (bset (fun c : Int => M 430 (15 + 7 * c + 2) = p ∧ M 430 (15 + 7 * c + 1) = 0) (fun c : Int => M 430 (15 + 7 * c + 3) / 10) n) (bset (fun c : Int => M 430 (15 + 7 * c + 2) = q ∧ M 430 (15 + 7 * c + 1) = 0) (fun c : Int => M 430 (15 + 7 * c + 3) / 10) n)) ∧ M9 = M ∨ (¬ ((0 ≤ p ∧ p ≤ M 430 0 - 1) ∧ (0 ≤ q ∧ q ≤ M 430 0 - 1) ∧ p ≠ q)) ∧ v9 = some (0, -1) ∧ M9 = M)) := by
  refine Con.ofV (al := [(1, 429), (0, p), (0, q)]) 0 (by decide) (Nat.le_of_ble_eq_true rfl) rfl ?_
  refine r_aload_n dX11_shared_0 rfl (by decide) ?_
  refine r_iload_n dX11_shared_1 rfl ?_
  refine r_cv1 dX11_shared_2 clX11_74 sf429 (by decide) (by decide) rfl (by first | decide | omega) (Nat.le_of_ble_eq_true rfl) (m_isPerson h0) ⟨Nat.zero_le _, Nat.zero_le _⟩ (fun _ => ?_)
  refine r_if_eq (tgt := 35) dX11_shared_5 (by decide) (fun h5 => ?_) (fun h5 => ?_)
  · try have h5 := bi_0.mp h5
    refine r_iconst dX11_shared_35 (by decide) ?_
    refine r_iret dX11_shared_36 rfl ?_
    first | exact ⟨rfl, Or.inl ⟨by omega, rfl, rfl⟩⟩ | exact ⟨rfl, Or.inr (⟨by omega, rfl, rfl⟩)⟩
  · try have h5 := bi_1.mp h5
    refine r_aload_n dX11_shared_8 rfl (by decide) ?_
    refine r_iload_n dX11_shared_9 rfl ?_
    refine r_cv1 dX11_shared_10 clX11_74 sf429 (by decide) (by decide) rfl (by first | decide | omega) (Nat.le_of_ble_eq_true rfl) (m_isPerson h0) ⟨Nat.zero_le _, Nat.zero_le _⟩ (fun _ => ?_)
    refine r_if_eq (tgt := 35) dX11_shared_13 (by decide) (fun h13 => ?_) (fun h13 => ?_)
    · try have h13 := bi_0.mp h13
      refine r_iconst dX11_shared_35 (by decide) ?_
      refine r_iret dX11_shared_36 rfl ?_
      first | exact ⟨rfl, Or.inl ⟨by omega, rfl, rfl⟩⟩ | exact ⟨rfl, Or.inr (⟨by omega, rfl, rfl⟩)⟩
    · try have h13 := bi_1.mp h13
      refine r_iload_n dX11_shared_16 rfl ?_
      refine r_iload_n dX11_shared_17 rfl ?_
      refine r_icmp_eq (tgt := 35) dX11_shared_18 (by decide) (fun h18 => ?_) (fun h18 => ?_)
      · refine r_iconst dX11_shared_35 (by decide) ?_
        refine r_iret dX11_shared_36 rfl ?_
        first | exact ⟨rfl, Or.inl ⟨by omega, rfl, rfl⟩⟩ | exact ⟨rfl, Or.inr (⟨by omega, rfl, rfl⟩)⟩
      · refine r_aload_n dX11_shared_21 rfl (by decide) ?_
        refine r_iload_n dX11_shared_22 rfl ?_
        refine r_cv1 dX11_shared_23 clX11_399 sf429 (by decide) (by decide) rfl (by first | decide | omega) (Nat.le_of_ble_eq_true rfl) (m_tensOf hn hn12 hy) ⟨Nat.zero_le _, Nat.zero_le _⟩ (fun _ => ?_)
        refine r_aload_n dX11_shared_26 rfl (by decide) ?_
        refine r_iload_n dX11_shared_27 rfl ?_
        refine r_cv1 dX11_shared_28 clX11_399 sf429 (by decide) (by decide) rfl (by first | decide | omega) (Nat.le_of_ble_eq_true rfl) (m_tensOf hn hn12 hy) ⟨Nat.zero_le _, Nat.zero_le _⟩ (fun _ => ?_)
        refine r_iand dX11_shared_31 rfl ?_
        refine r_goto (tgt := 36) dX11_shared_32 (by decide) ?_
        refine r_iret dX11_shared_36 rfl ?_
        first | exact ⟨rfl, Or.inl ⟨by omega, rfl, rfl⟩⟩ | exact ⟨rfl, Or.inr (⟨by omega, rfl, rfl⟩)⟩
