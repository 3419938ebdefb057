/-- what a set weighs in a SEAM; whether all SEAMS are so by it (a: the reference's row) -/
def smS (a : Int → Int) (s j : Int) : Nat → Int := isum (fun c : Int => and32 (shr32 s c) 1 = 1 ∧ (a (138 + 3 * j) ≤ a (15 + 7 * c + 3) ∧ a (15 + 7 * c + 3) ≤ a (138 + 3 * j + 1))) (fun c : Int => a (15 + 7 * c + 4))
def smA (a : Int → Int) (n : Nat) (s : Int) (J : Nat) : Prop := ∀ j : Nat, j < J → smS a s j n = a (138 + 3 * (j : Int) + 2)
theorem l_seam1 {x y z : Int} {M : Me} {s : Int} {j : Nat} (hj : j < 8) {n : Nat} (hn : M 430 14 = (n : Int)) (hn12 : n ≤ 12) (hto : ∀ c : Int, 0 ≤ c → c < n → 0 ≤ M 430 (15 + 7 * c + 4) ∧ M 430 (15 + 7 * c + 4) ≤ 9) {Q : Option AV → Sh → Me → Prop} (hc : V kX11_isSeamed 0 0 1 none Q 94 [(1, 429), (0, s), (0, 138 + 3 * (j : Int)), (0, smS (M 430) s j n), (9, 0)] [] (Sf x y z) M 0 0) : ∀ (m i : Nat), m + i = n → V kX11_isSeamed 0 0 1 none Q 26 [(1, 429), (0, s), (0, 138 + 3 * (j : Int)), (0, smS (M 430) s j i), (0, (i : Int))] [] (Sf x y z) M 0 0 := by
  intro m
  induction m with
  | zero =>
    intro i hi
    obtain rfl : i = n := by omega
    refine r_iload dX11_isSeamed_26 rfl ?_
    refine r_aload_n dX11_isSeamed_28 rfl (by decide) ?_
    refine r_getr (x := 430) dX11_isSeamed_29 flX11_7 sf429 (by decide) (by decide) rfl rfl ?_
    refine r_bipush dX11_isSeamed_32 (by decide) (by decide) ?_
    refine r_iald dX11_isSeamed_34 sf430 (by decide) (by omega) (by omega) (by decide) hn ?_
    refine r_icmp_ge (tgt := 94) dX11_isSeamed_35 (by decide) (fun h35 => ?_) (fun h35 => by exfalso; omega)
    exact wk4 hc
  | succ m ih =>
    intro i hi
    have hb := isum_b (p := (fun c : Int => and32 (shr32 s c) 1 = 1 ∧ (M 430 (138 + 3 * (j : Int)) ≤ M 430 (15 + 7 * c + 3) ∧ M 430 (15 + 7 * c + 3) ≤ M 430 (138 + 3 * (j : Int) + 1)))) (f := (fun c : Int => M 430 (15 + 7 * c + 4))) (b := 9) (n := i) (by decide) (fun q hq => by have := hto q (by omega) (by omega); (try dsimp only); omega)
    have hb : -((i : Int) * 9) ≤ smS (M 430) s j i ∧ smS (M 430) s j i ≤ (i : Int) * 9 := hb
    have hb2 := hto i (by omega) (by omega)
    refine r_iload dX11_isSeamed_26 rfl ?_
    refine r_aload_n dX11_isSeamed_28 rfl (by decide) ?_
    refine r_getr (x := 430) dX11_isSeamed_29 flX11_7 sf429 (by decide) (by decide) rfl rfl ?_
    refine r_bipush dX11_isSeamed_32 (by decide) (by decide) ?_
    refine r_iald dX11_isSeamed_34 sf430 (by decide) (by omega) (by omega) (by decide) hn ?_
    refine r_icmp_ge (tgt := 94) dX11_isSeamed_35 (by decide) (fun h35 => by exfalso; omega) (fun h35 => ?_)
    refine r_iload_n dX11_isSeamed_38 rfl ?_
    refine r_iload_n dX11_isSeamed_39 rfl ?_
    refine r_iload dX11_isSeamed_40 rfl ?_
    refine r_cs2 dX11_isSeamed_42 clX11_84 (by first | decide | omega) (Nat.le_of_ble_eq_true rfl) (c_has) ⟨Nat.zero_le _, Nat.zero_le _⟩ (fun _ => ?_)
    refine r_if_eq (tgt := 85) dX11_isSeamed_45 (by decide) (fun h45 => ?_) (fun h45 => ?_)
    · try have h45 := bi_0.mp h45
      refine r_iconst dX11_isSeamed_85 (by decide) ?_
      refine r_iadd dX11_isSeamed_86 (w32_id (by omega)) ?_
      refine r_istore_n dX11_isSeamed_87 rfl (by decide) st3 ?_
      refine r_iinc dX11_isSeamed_88 rfl rfl (by decide) (w32_id (by omega)) st4 ?_
      refine r_goto (tgt := 26) dX11_isSeamed_91 (by decide) ?_
      first | exact V.al (by rw [show smS (M 430) s j (i + 1) = _ from isum_t (p := (fun c : Int => and32 (shr32 s c) 1 = 1 ∧ (M 430 (138 + 3 * (j : Int)) ≤ M 430 (15 + 7 * c + 3) ∧ M 430 (15 + 7 * c + 3) ≤ M 430 (138 + 3 * (j : Int) + 1)))) (f := (fun c : Int => M 430 (15 + 7 * c + 4))) (by omega)]; rfl) (ih (i + 1) (by omega)) | exact V.al (by rw [show smS (M 430) s j (i + 1) = _ from isum_f (p := (fun c : Int => and32 (shr32 s c) 1 = 1 ∧ (M 430 (138 + 3 * (j : Int)) ≤ M 430 (15 + 7 * c + 3) ∧ M 430 (15 + 7 * c + 3) ≤ M 430 (138 + 3 * (j : Int) + 1)))) (f := (fun c : Int => M 430 (15 + 7 * c + 4))) (by omega)]; rfl) (ih (i + 1) (by omega))
    · try have h45 := bi_1.mp h45
      refine r_aload_n dX11_isSeamed_48 rfl (by decide) ?_
      refine r_iload dX11_isSeamed_49 rfl ?_
      refine r_iconst dX11_isSeamed_51 (by decide) ?_
      refine r_cv2 dX11_isSeamed_52 clX11_66 sf429 (by decide) (by decide) rfl (by first | decide | omega) (Nat.le_of_ble_eq_true rfl) (c_get (by omega) (by decide)) ⟨Nat.zero_le _, Nat.zero_le _⟩ (fun _ => ?_)
      refine r_aload_n dX11_isSeamed_55 rfl (by decide) ?_
      refine r_getr (x := 430) dX11_isSeamed_56 flX11_7 sf429 (by decide) (by decide) rfl rfl ?_
      refine r_iload_n dX11_isSeamed_59 rfl ?_
      refine r_iald dX11_isSeamed_60 sf430 (by decide) (by omega) (by omega) (by decide) (by first | assumption | ((repeat (first | (apply rd_ne; · omega) | (apply rd_eq; · omega) | (apply rd_out; · omega) | (apply rd_in; · omega))); first | assumption | rfl)) ?_
      refine r_aload_n dX11_isSeamed_61 rfl (by decide) ?_
      refine r_getr (x := 430) dX11_isSeamed_62 flX11_7 sf429 (by decide) (by decide) rfl rfl ?_
      refine r_iload_n dX11_isSeamed_65 rfl ?_
      refine r_iconst dX11_isSeamed_66 (by decide) ?_
      refine r_iadd dX11_isSeamed_67 (w32_id (by omega)) ?_
      refine r_iald dX11_isSeamed_68 sf430 (by decide) (by omega) (by omega) (by decide) (by first | assumption | ((repeat (first | (apply rd_ne; · omega) | (apply rd_eq; · omega) | (apply rd_out; · omega) | (apply rd_in; · omega))); first | assumption | rfl)) ?_
      refine r_cs3 dX11_isSeamed_69 clX11_62 (by first | decide | omega) (Nat.le_of_ble_eq_true rfl) (c_isIn) ⟨Nat.zero_le _, Nat.zero_le _⟩ (fun _ => ?_)
      refine r_if_eq (tgt := 85) dX11_isSeamed_72 (by decide) (fun h72 => ?_) (fun h72 => ?_)
      · try have h72 := bi_0.mp h72
        refine r_iconst dX11_isSeamed_85 (by decide) ?_
        refine r_iadd dX11_isSeamed_86 (w32_id (by omega)) ?_
        refine r_istore_n dX11_isSeamed_87 rfl (by decide) st3 ?_
        refine r_iinc dX11_isSeamed_88 rfl rfl (by decide) (w32_id (by omega)) st4 ?_
        refine r_goto (tgt := 26) dX11_isSeamed_91 (by decide) ?_
        first | exact V.al (by rw [show smS (M 430) s j (i + 1) = _ from isum_t (p := (fun c : Int => and32 (shr32 s c) 1 = 1 ∧ (M 430 (138 + 3 * (j : Int)) ≤ M 430 (15 + 7 * c + 3) ∧ M 430 (15 + 7 * c + 3) ≤ M 430 (138 + 3 * (j : Int) + 1)))) (f := (fun c : Int => M 430 (15 + 7 * c + 4))) (by omega)]; rfl) (ih (i + 1) (by omega)) | exact V.al (by rw [show smS (M 430) s j (i + 1) = _ from isum_f (p := (fun c : Int => and32 (shr32 s c) 1 = 1 ∧ (M 430 (138 + 3 * (j : Int)) ≤ M 430 (15 + 7 * c + 3) ∧ M 430 (15 + 7 * c + 3) ≤ M 430 (138 + 3 * (j : Int) + 1)))) (f := (fun c : Int => M 430 (15 + 7 * c + 4))) (by omega)]; rfl) (ih (i + 1) (by omega))
      · try have h72 := bi_1.mp h72
        refine r_aload_n dX11_isSeamed_75 rfl (by decide) ?_
        refine r_iload dX11_isSeamed_76 rfl ?_
        refine r_iconst dX11_isSeamed_78 (by decide) ?_
        refine r_cv2 dX11_isSeamed_79 clX11_66 sf429 (by decide) (by decide) rfl (by first | decide | omega) (Nat.le_of_ble_eq_true rfl) (c_get (by omega) (by decide)) ⟨Nat.zero_le _, Nat.zero_le _⟩ (fun _ => ?_)
        refine r_goto (tgt := 86) dX11_isSeamed_82 (by decide) ?_
        refine r_iadd dX11_isSeamed_86 (w32_id (by omega)) ?_
        refine r_istore_n dX11_isSeamed_87 rfl (by decide) st3 ?_
        refine r_iinc dX11_isSeamed_88 rfl rfl (by decide) (w32_id (by omega)) st4 ?_
        refine r_goto (tgt := 26) dX11_isSeamed_91 (by decide) ?_
        first | exact V.al (by rw [show smS (M 430) s j (i + 1) = _ from isum_t (p := (fun c : Int => and32 (shr32 s c) 1 = 1 ∧ (M 430 (138 + 3 * (j : Int)) ≤ M 430 (15 + 7 * c + 3) ∧ M 430 (15 + 7 * c + 3) ≤ M 430 (138 + 3 * (j : Int) + 1)))) (f := (fun c : Int => M 430 (15 + 7 * c + 4))) (by omega)]; rfl) (ih (i + 1) (by omega)) | exact V.al (by rw [show smS (M 430) s j (i + 1) = _ from isum_f (p := (fun c : Int => and32 (shr32 s c) 1 = 1 ∧ (M 430 (138 + 3 * (j : Int)) ≤ M 430 (15 + 7 * c + 3) ∧ M 430 (15 + 7 * c + 3) ≤ M 430 (138 + 3 * (j : Int) + 1)))) (f := (fun c : Int => M 430 (15 + 7 * c + 4))) (by omega)]; rfl) (ih (i + 1) (by omega))
theorem l_seam2 {x y z : Int} {M : Me} {s : Int} {n : Nat} (hn : M 430 14 = (n : Int)) (hn12 : n ≤ 12) {n6 : Nat} (h6 : M 430 6 = (n6 : Int)) (h68 : n6 ≤ 8) (hto : ∀ c : Int, 0 ≤ c → c < n → 0 ≤ M 430 (15 + 7 * c + 4) ∧ M 430 (15 + 7 * c + 4) ≤ 9) : ∀ (m i : Nat), m + i = n6 → smA (M 430) n s i → V kX11_isSeamed 0 0 1 none (Ex (some (0, bic (smA (M 430) n s n6))) (Sf x y z) M) 4 [(1, 429), (0, s), (0, 138 + 3 * (i : Int)), (9, 0), (9, 0)] [] (Sf x y z) M 0 0 := by
  intro m
  induction m with
  | zero =>
    intro i hi hq
    obtain rfl : i = n6 := by omega
    refine r_iload_n dX11_isSeamed_4 rfl ?_
    refine r_sipush dX11_isSeamed_5 (by decide) (by decide) ?_
    refine r_iconst dX11_isSeamed_8 (by decide) ?_
    refine r_aload_n dX11_isSeamed_9 rfl (by decide) ?_
    refine r_getr (x := 430) dX11_isSeamed_10 flX11_7 sf429 (by decide) (by decide) rfl rfl ?_
    refine r_bipush dX11_isSeamed_13 (by decide) (by decide) ?_
    refine r_iald dX11_isSeamed_15 sf430 (by decide) (by omega) (by omega) (by decide) (by first | assumption | ((repeat (first | (apply rd_ne; · omega) | (apply rd_eq; · omega) | (apply rd_out; · omega) | (apply rd_in; · omega))); first | assumption | rfl)) ?_
    refine r_imul dX11_isSeamed_16 (w32_id (by omega)) ?_
    refine r_iadd dX11_isSeamed_17 (w32_id (by omega)) ?_
    refine r_icmp_ge (tgt := 114) dX11_isSeamed_18 (by decide) (fun h18 => ?_) (fun h18 => by exfalso; omega)
    refine r_iconst dX11_isSeamed_114 (by decide) ?_
    refine r_zret dX11_isSeamed_115 rfl (by omega) ?_
    exact ⟨by rw [bic_t hq], rfl, rfl⟩
  | succ m ih =>
    intro i hi hq
    refine r_iload_n dX11_isSeamed_4 rfl ?_
    refine r_sipush dX11_isSeamed_5 (by decide) (by decide) ?_
    refine r_iconst dX11_isSeamed_8 (by decide) ?_
    refine r_aload_n dX11_isSeamed_9 rfl (by decide) ?_
    refine r_getr (x := 430) dX11_isSeamed_10 flX11_7 sf429 (by decide) (by decide) rfl rfl ?_
    refine r_bipush dX11_isSeamed_13 (by decide) (by decide) ?_
    refine r_iald dX11_isSeamed_15 sf430 (by decide) (by omega) (by omega) (by decide) (by first | assumption | ((repeat (first | (apply rd_ne; · omega) | (apply rd_eq; · omega) | (apply rd_out; · omega) | (apply rd_in; · omega))); first | assumption | rfl)) ?_
    refine r_imul dX11_isSeamed_16 (w32_id (by omega)) ?_
    refine r_iadd dX11_isSeamed_17 (w32_id (by omega)) ?_
    refine r_icmp_ge (tgt := 114) dX11_isSeamed_18 (by decide) (fun h18 => by exfalso; omega) (fun h18 => ?_)
    refine r_iconst dX11_isSeamed_21 (by decide) ?_
    refine r_istore_n dX11_isSeamed_22 rfl (by decide) st3 ?_
    refine r_iconst dX11_isSeamed_23 (by decide) ?_
    refine r_istore dX11_isSeamed_24 rfl (by decide) st4 ?_
    refine l_seam1 (by omega) hn hn12 hto ?_ n 0 (by omega)
    refine r_iload_n dX11_isSeamed_94 rfl ?_
    refine r_aload_n dX11_isSeamed_95 rfl (by decide) ?_
    refine r_getr (x := 430) dX11_isSeamed_96 flX11_7 sf429 (by decide) (by decide) rfl rfl ?_
    refine r_iload_n dX11_isSeamed_99 rfl ?_
    refine r_iconst dX11_isSeamed_100 (by decide) ?_
    refine r_iadd dX11_isSeamed_101 (w32_id (by omega)) ?_
    refine r_iald dX11_isSeamed_102 sf430 (by decide) (by omega) (by omega) (by decide) (by first | assumption | ((repeat (first | (apply rd_ne; · omega) | (apply rd_eq; · omega) | (apply rd_out; · omega) | (apply rd_in; · omega))); first | assumption | rfl)) ?_
    refine r_icmp_eq (tgt := 108) dX11_isSeamed_103 (by decide) (fun h103 => ?_) (fun h103 => ?_)
    · refine r_iinc dX11_isSeamed_108 rfl rfl (by decide) (w32_id (by omega)) st2 ?_
      refine r_goto (tgt := 4) dX11_isSeamed_111 (by decide) ?_
      exact wk3 (V.al (by rw [show 138 + 3 * (i : Int) + 3 = 138 + 3 * ((i + 1 : Nat) : Int) by omega]) (ih (i + 1) (by omega) (fun q h => (Nat.lt_or_ge q i).elim (hq q) (fun h2 => by rw [show q = i by omega]; assumption))))
    · refine r_iconst dX11_isSeamed_106 (by decide) ?_
      refine r_zret dX11_isSeamed_107 rfl (by omega) ?_
      exact ⟨by rw [bic_f (fun q => absurd (q i (by omega)) (by assumption))], rfl, rfl⟩
theorem m_isSeamed {x y z : Int} {M : Me} {s : Int} {n : Nat} (hn : M 430 14 = (n : Int)) (hn12 : n ≤ 12) {n6 : Nat} (h6 : M 430 6 = (n6 : Int)) (h68 : n6 ≤ 8) (hto : ∀ c : Int, 0 ≤ c → c < n → 0 ≤ M 430 (15 + 7 * c + 4) ∧ M 430 (15 + 7 * c + 4) ≤ 9) : Con kX11_isSeamed 1 0 0 [(1, 429), (0, s)] (Sf x y z) M (Ex (some (0, bic (smA (M 430) n s n6))) (Sf x y z) M) := by
  refine Con.ofV (al := [(1, 429), (0, s), (9, 0), (9, 0), (9, 0)]) 3 (by decide) (Nat.le_of_ble_eq_true rfl) rfl ?_
  refine r_sipush dX11_isSeamed_0 (by decide) (by decide) ?_
  refine r_istore_n dX11_isSeamed_3 rfl (by decide) st2 ?_
  exact l_seam2 hn hn12 h6 h68 hto n6 0 (by omega) (fun j h => absurd h (by omega))
/-- the reference's memory behind found and with -/
def lsm (M : Me) (F : Int) (X : Int → Int) : Me := fun a j => if a = 429 ∧ j = 25 then F else if a = 440 ∧ 0 ≤ j ∧ j < 12 then X j else M a j
theorem lsm_o {M : Me} {F : Int} {X : Int → Int} {a j : Int} (h : ¬ (a = 429 ∧ j = 25) ∧ ¬ (a = 440 ∧ 0 ≤ j ∧ j < 12)) : lsm M F X a j = M a j := by unfold lsm; rw [if_neg h.1, if_neg h.2]
theorem rd_lo {M : Me} {F : Int} {X : Int → Int} {a j z : Int} (h : ¬ (a = 429 ∧ j = 25) ∧ ¬ (a = 440 ∧ 0 ≤ j ∧ j < 12)) (k : M a j = z) : lsm M F X a j = z := (lsm_o h).trans k
theorem rd_lF {M : Me} {F : Int} {X : Int → Int} {a j z : Int} (h : a = 429 ∧ j = 25) (k : F = z) : lsm M F X a j = z := by unfold lsm; rw [if_pos h]; exact k
theorem rd_lX {M : Me} {F : Int} {X : Int → Int} {a j z : Int} (h : a = 440 ∧ 0 ≤ j ∧ j < 12) (k : X j = z) : lsm M F X a j = z := by unfold lsm; rw [if_neg (by omega), if_pos h]; exact k
theorem lsm_0 {M : Me} : up M 429 25 0 = lsm M 0 (fun c => M 440 c) := by
  funext a j
  unfold up lsm
  split
  · rfl
  · split
    · rename_i h; rw [h.1]
    · rfl
theorem lsm_X {M : Me} {F y v : Int} {X Y : Int → Int} (hy : 0 ≤ y ∧ y < 12) (h : ∀ c, 0 ≤ c → c < 12 → Y c = if c = y then v else X c) : up (lsm M F X) 440 y v = lsm M F Y := by
  funext a j
  unfold up lsm
  by_cases h1 : a = 440 ∧ j = y
  · rw [if_pos h1, if_neg (by omega), if_pos (by omega), h j (by omega) (by omega), if_pos h1.2]
  · rw [if_neg h1]
    by_cases h2 : a = 429 ∧ j = 25
    · rw [if_pos h2, if_pos h2]
    · rw [if_neg h2, if_neg h2]
      by_cases h3 : a = 440 ∧ 0 ≤ j ∧ j < 12
      · rw [if_pos h3, if_pos h3, h j h3.2.1 h3.2.2, if_neg (fun q => h1 ⟨h3.1, q⟩)]
      · rw [if_neg h3, if_neg h3]
theorem lsm_F {M : Me} {F v : Int} {X : Int → Int} : up (lsm M F X) 429 25 v = lsm M v X := by
  funext a j
  unfold up lsm
  by_cases h1 : a = 429 ∧ j = 25
  · rw [if_pos h1, if_pos h1]
  · rw [if_neg h1, if_neg h1, if_neg h1]
theorem lsm_c {M : Me} {F : Int} {X Y : Int → Int} (h : ∀ c, 0 ≤ c → c < 12 → X c = Y c) : lsm M F X = lsm M F Y := by
  funext a j
  unfold lsm
  by_cases h1 : a = 429 ∧ j = 25
  · rw [if_pos h1, if_pos h1]
  · rw [if_neg h1, if_neg h1]
    by_cases h3 : a = 440 ∧ 0 ≤ j ∧ j < 12
    · rw [if_pos h3, if_pos h3, h j h3.2.1 h3.2.2]
    · rw [if_neg h3, if_neg h3]
theorem lsm_row {M : Me} {F : Int} {X : Int → Int} : lsm M F X 430 = M 430 := by funext j; exact lsm_o (by omega)
theorem lay_if {g h : Int → Int} {i : Nat} {v c : Int} (hv : h i = v) : (if c < ((i + 1 : Nat) : Int) then h c else g c) = if c = (i : Int) then v else (if c < (i : Int) then h c else g c) := by
  by_cases e : c = (i : Int)
  · subst e
    rw [if_pos (by omega), if_pos rfl, hv]
  · rw [if_neg e]
    by_cases e2 : c < (i : Int)
    · rw [if_pos e2, if_pos (by omega)]
    · rw [if_neg e2, if_neg (by omega)]
noncomputable def sok (a : Int → Int) (n n6 : Nat) (al s : Int) : Int := bic (and32 s (xor32 al (-1)) = 0 ∧ smA a n s n6)
/-- how many sets so far; how many of them have c -/
noncomputable def fnd (a : Int → Int) (n n6 : Nat) (al : Int) : Nat → Int
  | 0 => 0
  | s + 1 => fnd a n n6 al s + sok a n n6 al s
noncomputable def wth (a : Int → Int) (n n6 : Nat) (al : Int) : Nat → Int → Int
  | 0, _ => 0
  | s + 1, c => wth a n n6 al s c + sok a n n6 al s * and32 (shr32 s c) 1
theorem sok_t {a : Int → Int} {n n6 : Nat} {al s : Int} (h : and32 s (xor32 al (-1)) = 0 ∧ smA a n s n6) : sok a n n6 al s = 1 := bic_t h
theorem sok_f {a : Int → Int} {n n6 : Nat} {al s : Int} (h : ¬ (and32 s (xor32 al (-1)) = 0 ∧ smA a n s n6)) : sok a n n6 al s = 0 := bic_f h
theorem bit_01 {s : Int} {c : Nat} (hc : c < 32) : 0 ≤ and32 (shr32 s c) 1 ∧ and32 (shr32 s c) 1 ≤ 1 := by
  by_cases h : tb s c = true
  · rw [(tb_has hc).mpr h]; decide
  · have : and32 (shr32 s c) 1 = 0 := by
      refine tb_ext (and32_in _ _) (by decide) (fun i hi => ?_)
      rw [tb_0, tb_and]
      have h1 : ∀ i, i < 32 → tb 1 i = decide (i = 0) := by decide +kernel
      rw [h1 i hi]
      by_cases h0 : i = 0
      · subst h0
        have e : tb (shr32 s c) 0 = tb s c := by
          unfold tb shr32
          rw [oI_oI, oI_nI, b_sshr c hc _ hi]
          simp [hc]
        rw [e]
        simp [h]
      · simp [h0]
    rw [this]; decide
theorem sok_01 {a : Int → Int} {n n6 : Nat} {al s : Int} : 0 ≤ sok a n n6 al s ∧ sok a n n6 al s ≤ 1 := by
  by_cases h : and32 s (xor32 al (-1)) = 0 ∧ smA a n s n6
  · rw [sok_t h]; decide
  · rw [sok_f h]; decide
theorem fnd_b {a : Int → Int} {n n6 : Nat} {al : Int} : ∀ s : Nat, 0 ≤ fnd a n n6 al s ∧ fnd a n n6 al s ≤ s := by
  intro s
  induction s with
  | zero => exact (show 0 ≤ (0 : Int) ∧ (0 : Int) ≤ ((0 : Nat) : Int) by omega)
  | succ s ih =>
    have := sok_01 (a := a) (n := n) (n6 := n6) (al := al) (s := s)
    unfold fnd; omega
theorem wth_b {a : Int → Int} {n n6 : Nat} {al : Int} {c : Nat} (hc : c < 32) : ∀ s : Nat, 0 ≤ wth a n n6 al s c ∧ wth a n n6 al s c ≤ fnd a n n6 al s := by
  intro s
  induction s with
  | zero => exact (show 0 ≤ (0 : Int) ∧ (0 : Int) ≤ (0 : Int) by omega)
  | succ s ih =>
    have h1 := bit_01 (s := s) hc
    by_cases h : and32 s (xor32 al (-1)) = 0 ∧ smA a n s n6
    · unfold wth fnd; rw [sok_t h]; omega
    · unfold wth fnd; rw [sok_f h]; omega
theorem l_lay3 {x y z : Int} {M : Me} {p : Int} {n : Nat} (hn : M 430 14 = (n : Int)) (hn12 : n ≤ 12) {n6 : Nat} (h6 : M 430 6 = (n6 : Int)) (h68 : n6 ≤ 8) (hto : ∀ c : Int, 0 ≤ c → c < n → 0 ≤ M 430 (15 + 7 * c + 4) ∧ M 430 (15 + 7 * c + 4) ≤ 9) {al : Nat} (hal2 : al < 4096) {s : Nat} (hs : s ≤ al) {F : Int} {Q : Option AV → Sh → Me → Prop} (hc : V kX11_laySets 0 0 3 none Q 100 [(1, 429), (0, p), (0, (al : Int)), (0, (s : Int)), (9, 0)] [] (Sf x y z) (lsm M F (fun c => wth (M 430) n n6 al s c + and32 (shr32 (s : Int) c) 1)) 0 0) : ∀ (m i : Nat), m + i = 12 → V kX11_laySets 0 0 3 none Q 71 [(1, 429), (0, p), (0, (al : Int)), (0, (s : Int)), (0, (i : Int))] [] (Sf x y z) (lsm M F (fun c : Int => if c < (i : Int) then wth (M 430) n n6 al s c + and32 (shr32 (s : Int) c) 1 else wth (M 430) n n6 al s c)) 0 0 := by
  intro m
  induction m with
  | zero =>
    intro i hi
    obtain rfl : i = 12 := by omega
    refine r_iload dX11_laySets_71 rfl ?_
    refine r_bipush dX11_laySets_73 (by decide) (by decide) ?_
    refine r_icmp_ge (tgt := 100) dX11_laySets_75 (by decide) (fun h75 => ?_) (fun h75 => by exfalso; omega)
    exact wk4 (V.cm rfl (lsm_c (fun c q1 q2 => if_pos (by omega))) hc)
  | succ m ih =>
    intro i hi
    have hb := wth_b (a := M 430) (n := n) (n6 := n6) (al := al) (c := i) (by omega) s
    have hb2 := fnd_b (a := M 430) (n := n) (n6 := n6) (al := al) s
    have hb3 := bit_01 (s := (s : Int)) (c := i) (by omega)
    refine r_iload dX11_laySets_71 rfl ?_
    refine r_bipush dX11_laySets_73 (by decide) (by decide) ?_
    refine r_icmp_ge (tgt := 100) dX11_laySets_75 (by decide) (fun h75 => by exfalso; omega) (fun h75 => ?_)
    refine r_aload_n dX11_laySets_78 rfl (by decide) ?_
    refine r_getr (x := 440) dX11_laySets_79 flX11_49 sf429 (by decide) (by decide) rfl rfl ?_
    refine r_iload dX11_laySets_82 rfl ?_
    refine r_dup2 dX11_laySets_84 (Nat.ne_of_beq_eq_false rfl) (Nat.ne_of_beq_eq_false rfl) ?_
    refine r_iald dX11_laySets_85 sf440 (by decide) (by omega) (by omega) (by decide) (rd_lX (by omega) (if_neg (by omega))) ?_
    refine r_iload_n dX11_laySets_86 rfl ?_
    refine r_iload dX11_laySets_87 rfl ?_
    refine r_ishr dX11_laySets_89 rfl ?_
    refine r_iconst dX11_laySets_90 (by decide) ?_
    refine r_iand dX11_laySets_91 rfl ?_
    refine r_iadd dX11_laySets_92 (w32_id (by omega)) ?_
    refine r_iast dX11_laySets_93 sf440 (by decide) (by omega) (by omega) (by decide) rfl ?_
    refine r_iinc dX11_laySets_94 rfl rfl (by decide) (w32_id (by omega)) st4 ?_
    refine r_goto (tgt := 71) dX11_laySets_97 (by decide) ?_
    exact V.cm rfl (lsm_X (by omega) (fun c q1 q2 => lay_if (h := fun c => wth (M 430) n n6 al s c + and32 (shr32 (s : Int) c) 1) (g := fun c => wth (M 430) n n6 al s c) rfl)) (ih (i + 1) (by omega))
theorem l_lay2 {x y z : Int} {M : Me} {p : Int} {n : Nat} (hn : M 430 14 = (n : Int)) (hn12 : n ≤ 12) {n6 : Nat} (h6 : M 430 6 = (n6 : Int)) (h68 : n6 ≤ 8) (hto : ∀ c : Int, 0 ≤ c → c < n → 0 ≤ M 430 (15 + 7 * c + 4) ∧ M 430 (15 + 7 * c + 4) ≤ 9) {al : Nat} (hal2 : al < 4096) : ∀ (m i : Nat), m + i = al + 1 → V kX11_laySets 0 0 3 none (Ex none (Sf x y z) (lsm M (fnd (M 430) n n6 al (al + 1)) (wth (M 430) n n6 al (al + 1)))) 34 [(1, 429), (0, p), (0, (al : Int)), (0, (i : Int)), (9, 0)] [] (Sf x y z) (lsm M (fnd (M 430) n n6 al i) (wth (M 430) n n6 al i)) 0 0 := by
  intro m
  induction m with
  | zero =>
    intro i hi
    have hi2 : i = al + 1 := by omega
    subst hi2
    refine r_iload_n dX11_laySets_34 rfl ?_
    refine r_iload_n dX11_laySets_35 rfl ?_
    refine r_icmp_gt (tgt := 106) dX11_laySets_36 (by decide) (fun h36 => ?_) (fun h36 => by exfalso; omega)
    refine r_ret0 dX11_laySets_106 rfl ?_
    exact ⟨rfl, rfl, rfl⟩
  | succ m ih =>
    intro i hi
    have hb2 := fnd_b (a := M 430) (n := n) (n6 := n6) (al := al) i
    have hno : ¬ (and32 (i : Int) (xor32 (al : Int) (-1)) = 0 ∧ smA (M 430) n i n6) → lsm M (fnd (M 430) n n6 al i) (wth (M 430) n n6 al i) = lsm M (fnd (M 430) n n6 al (i + 1)) (wth (M 430) n n6 al (i + 1)) := fun h => by
      rw [show fnd (M 430) n n6 al (i + 1) = fnd (M 430) n n6 al i by (show _ + sok _ _ _ _ _ = _); rw [sok_f h]; omega]
      exact lsm_c (fun c _ _ => by (show _ = _ + sok _ _ _ _ _ * _); rw [sok_f h]; omega)
    have hyes : (and32 (i : Int) (xor32 (al : Int) (-1)) = 0 ∧ smA (M 430) n i n6) → lsm M (fnd (M 430) n n6 al i + 1) (fun c => wth (M 430) n n6 al i c + and32 (shr32 (i : Int) c) 1) = lsm M (fnd (M 430) n n6 al (i + 1)) (wth (M 430) n n6 al (i + 1)) := fun h => by
      rw [show fnd (M 430) n n6 al (i + 1) = fnd (M 430) n n6 al i + 1 by (show _ + sok _ _ _ _ _ = _); rw [sok_t h]]
      exact lsm_c (fun c _ _ => by (show _ = _ + sok _ _ _ _ _ * _); rw [sok_t h]; omega)
    refine r_iload_n dX11_laySets_34 rfl ?_
    refine r_iload_n dX11_laySets_35 rfl ?_
    refine r_icmp_gt (tgt := 106) dX11_laySets_36 (by decide) (fun h36 => by exfalso; omega) (fun h36 => ?_)
    refine r_iload_n dX11_laySets_39 rfl ?_
    refine r_iload_n dX11_laySets_40 rfl ?_
    refine r_iconst dX11_laySets_41 (by decide) ?_
    refine r_ixor dX11_laySets_42 rfl ?_
    refine r_iand dX11_laySets_43 rfl ?_
    refine r_if_ne (tgt := 100) dX11_laySets_44 (by decide) (fun h44 => ?_) (fun h44 => ?_)
    · refine r_iinc dX11_laySets_100 rfl rfl (by decide) (w32_id (by omega)) st3 ?_
      refine r_goto (tgt := 34) dX11_laySets_103 (by decide) ?_
      exact V.cm rfl (hno (fun q => by first | exact absurd q.1 (by assumption) | exact absurd q.2 (bic_0 (by assumption)))) (ih (i + 1) (by omega))
    · refine r_aload_n dX11_laySets_47 rfl (by decide) ?_
      refine r_iload_n dX11_laySets_48 rfl ?_
      refine r_cv1 dX11_laySets_49 clX11_418 sf429 (by decide) (by decide) rfl (by first | decide | omega) (Nat.le_of_ble_eq_true rfl) ((m_isSeamed (by rw [lsm_o (by omega)]; exact hn) hn12 (by rw [lsm_o (by omega)]; exact h6) h68 (by intro c q1 q2; rw [lsm_row]; exact hto c q1 q2))) ⟨Nat.zero_le _, Nat.zero_le _⟩ (fun _ => ?_)
      refine r_if_ne (tgt := 58) dX11_laySets_52 (by decide) (fun h52 => ?_) (fun h52 => ?_)
      · rw [lsm_row] at h52
        refine r_aload_n dX11_laySets_58 rfl (by decide) ?_
        refine r_dup dX11_laySets_59 (Nat.ne_of_beq_eq_false rfl) ?_
        refine r_gi 25 dX11_laySets_60 flX11_415 sf429 (by decide) (by decide) rfl rfl (by first | assumption | ((repeat (first | (apply rd_ne; · omega) | (apply rd_eq; · omega) | (apply rd_out; · omega) | (apply rd_in; · omega) | (apply rd_lo; · omega) | (apply rd_lF; · omega) | (apply rd_lX; · omega))); first | assumption | rfl)) ?_
        refine r_iconst dX11_laySets_63 (by decide) ?_
        refine r_iadd dX11_laySets_64 (w32_id (by omega)) ?_
        refine r_pi 25 dX11_laySets_65 fpX11_415 sf429 (by decide) (by decide) rfl rfl ?_
        refine V.cm rfl lsm_F ?_
        refine r_iconst dX11_laySets_68 (by decide) ?_
        refine r_istore dX11_laySets_69 rfl (by decide) st4 ?_
        refine V.cm rfl (lsm_c (fun c q1 q2 => (if_neg (by omega)).symm)) (l_lay3 hn hn12 h6 h68 hto hal2 (by omega) ?_ 12 0 (by omega))
        refine r_iinc dX11_laySets_100 rfl rfl (by decide) (w32_id (by omega)) st3 ?_
        refine r_goto (tgt := 34) dX11_laySets_103 (by decide) ?_
        exact V.cm rfl (hyes ⟨by assumption, bic_1 (by assumption)⟩) (ih (i + 1) (by omega))
      · rw [lsm_row] at h52
        refine r_goto (tgt := 100) dX11_laySets_55 (by decide) ?_
        refine r_iinc dX11_laySets_100 rfl rfl (by decide) (w32_id (by omega)) st3 ?_
        refine r_goto (tgt := 34) dX11_laySets_103 (by decide) ?_
        exact V.cm rfl (hno (fun q => by first | exact absurd q.1 (by assumption) | exact absurd q.2 (bic_0 (by assumption)))) (ih (i + 1) (by omega))
theorem l_lay1 {x y z : Int} {M : Me} {p : Int} {n : Nat} (hn : M 430 14 = (n : Int)) (hn12 : n ≤ 12) {n6 : Nat} (h6 : M 430 6 = (n6 : Int)) (h68 : n6 ≤ 8) (hto : ∀ c : Int, 0 ≤ c → c < n → 0 ≤ M 430 (15 + 7 * c + 4) ∧ M 430 (15 + 7 * c + 4) ≤ 9) {al : Nat} (hal2 : al < 4096) : ∀ (m i : Nat), m + i = 12 → V kX11_laySets 0 0 3 none (Ex none (Sf x y z) (lsm M (fnd (M 430) n n6 al (al + 1)) (wth (M 430) n n6 al (al + 1)))) 13 [(1, 429), (0, p), (0, (al : Int)), (0, (i : Int)), (9, 0)] [] (Sf x y z) (lsm M 0 (fun c : Int => if c < (i : Int) then 0 else M 440 c)) 0 0 := by
  intro m
  induction m with
  | zero =>
    intro i hi
    obtain rfl : i = 12 := by omega
    refine r_iload_n dX11_laySets_13 rfl ?_
    refine r_bipush dX11_laySets_14 (by decide) (by decide) ?_
    refine r_icmp_ge (tgt := 32) dX11_laySets_16 (by decide) (fun h16 => ?_) (fun h16 => by exfalso; omega)
    refine r_iconst dX11_laySets_32 (by decide) ?_
    refine r_istore_n dX11_laySets_33 rfl (by decide) st3 ?_
    exact V.cm rfl (lsm_c (fun c q1 q2 => if_pos (by omega))) (l_lay2 hn hn12 h6 h68 hto hal2 (al + 1) 0 (by omega))
  | succ m ih =>
    intro i hi
    refine r_iload_n dX11_laySets_13 rfl ?_
    refine r_bipush dX11_laySets_14 (by decide) (by decide) ?_
    refine r_icmp_ge (tgt := 32) dX11_laySets_16 (by decide) (fun h16 => by exfalso; omega) (fun h16 => ?_)
    refine r_aload_n dX11_laySets_19 rfl (by decide) ?_
    refine r_getr (x := 440) dX11_laySets_20 flX11_49 sf429 (by decide) (by decide) rfl rfl ?_
    refine r_iload_n dX11_laySets_23 rfl ?_
    refine r_iconst dX11_laySets_24 (by decide) ?_
    refine r_iast dX11_laySets_25 sf440 (by decide) (by omega) (by omega) (by decide) rfl ?_
    refine r_iinc dX11_laySets_26 rfl rfl (by decide) (w32_id (by omega)) st3 ?_
    refine r_goto (tgt := 13) dX11_laySets_29 (by decide) ?_
    exact V.cm rfl (lsm_X (by omega) (fun c q1 q2 => lay_if (h := fun _ => 0) (g := fun c => M 440 c) rfl)) (ih (i + 1) (by omega))
theorem m_laySets {x y z : Int} {M : Me} {p : Int} {n : Nat} (hn : M 430 14 = (n : Int)) (hn12 : n ≤ 12) {n6 : Nat} (h6 : M 430 6 = (n6 : Int)) (h68 : n6 ≤ 8) (hto : ∀ c : Int, 0 ≤ c → c < n → 0 ≤ M 430 (15 + 7 * c + 4) ∧ M 430 (15 + 7 * c + 4) ≤ 9) {al : Nat} (hal : bset (fun c : Int => M 430 (15 + 7 * c + 2) = p) (fun c => c) n = (al : Int)) (hal2 : al < 4096) : Con kX11_laySets 3 0 0 [(1, 429), (0, p)] (Sf x y z) M (Ex none (Sf x y z) (lsm M (fnd (M 430) n n6 al (al + 1)) (wth (M 430) n n6 al (al + 1)))) := by
  refine Con.ofV (al := [(1, 429), (0, p), (9, 0), (9, 0), (9, 0)]) 3 (by decide) (Nat.le_of_ble_eq_true rfl) rfl ?_
  refine r_aload_n dX11_laySets_0 rfl (by decide) ?_
  refine r_iload_n dX11_laySets_1 rfl ?_
  refine r_cv1 dX11_laySets_2 clX11_387 sf429 (by decide) (by decide) rfl (by first | decide | omega) (Nat.le_of_ble_eq_true rfl) (c_ownedBy hn hn12) ⟨Nat.zero_le _, Nat.zero_le _⟩ (fun _ => ?_)
  rw [show bset (fun c : Int => M 430 (15 + 7 * c + 2) = p) (fun c => c) n = (al : Int) from hal]
  refine r_istore_n dX11_laySets_5 rfl (by decide) st2 ?_
  refine r_aload_n dX11_laySets_6 rfl (by decide) ?_
  refine r_iconst dX11_laySets_7 (by decide) ?_
  refine r_pi 25 dX11_laySets_8 fpX11_415 sf429 (by decide) (by decide) rfl rfl ?_
  refine V.cm rfl lsm_0 ?_
  refine r_iconst dX11_laySets_11 (by decide) ?_
  refine r_istore_n dX11_laySets_12 rfl (by decide) st3 ?_
  exact V.cm rfl (lsm_c (fun c q1 q2 => (if_neg (by omega)).symm)) (l_lay1 hn hn12 h6 h68 hto hal2 12 0 (by omega))
def stA (o F : Int) (X : Int → Int) (u : Int) : Nat → Int := bset (fun c : Int => and32 (shr32 o c) 1 = 1 ∧ X c = (if u = 1 then F else 0)) (fun c => c)
theorem l_sets {x y z : Int} {M : Me} {p u : Int} {n : Nat} (hn : M 430 14 = (n : Int)) (hn12 : n ≤ 12) {n6 : Nat} (h6 : M 430 6 = (n6 : Int)) (h68 : n6 ≤ 8) (hto : ∀ c : Int, 0 ≤ c → c < n → 0 ≤ M 430 (15 + 7 * c + 4) ∧ M 430 (15 + 7 * c + 4) ≤ 9) {al : Nat} (hal : bset (fun c : Int => M 430 (15 + 7 * c + 2) = p) (fun c => c) n = (al : Int)) (hal2 : al < 4096) (hF : 0 < (fnd (M 430) n n6 al (al + 1))) (hu : 0 ≤ u ∧ u ≤ 2) : ∀ (m i : Nat), m + i = n → V kX11_sets 0 0 4 none (fun v9 S9 M9 => S9 = (Sf x y z) ∧ ((u = 0) ∧ v9 = some (0, (fnd (M 430) n n6 al (al + 1))) ∧ M9 = (lsm M (fnd (M 430) n n6 al (al + 1)) (wth (M 430) n n6 al (al + 1))) ∨ (u ≠ 0 ∧ 0 < (fnd (M 430) n n6 al (al + 1))) ∧ v9 = some (0, stA al (fnd (M 430) n n6 al (al + 1)) (wth (M 430) n n6 al (al + 1)) u n) ∧ M9 = (lsm M (fnd (M 430) n n6 al (al + 1)) (wth (M 430) n n6 al (al + 1))) ∨ (u ≠ 0 ∧ ¬ 0 < (fnd (M 430) n n6 al (al + 1))) ∧ v9 = some (0, 0) ∧ M9 = (lsm M (fnd (M 430) n n6 al (al + 1)) (wth (M 430) n n6 al (al + 1))))) 29 [(1, 429), (0, p), (0, u), (0, stA al (fnd (M 430) n n6 al (al + 1)) (wth (M 430) n n6 al (al + 1)) u i), (0, (i : Int))] [] (Sf x y z) (lsm M (fnd (M 430) n n6 al (al + 1)) (wth (M 430) n n6 al (al + 1))) 0 0 := by
  intro m
  induction m with
  | zero =>
    intro i hi
    obtain rfl : i = n := by omega
    refine r_iload dX11_sets_29 rfl ?_
    refine r_aload_n dX11_sets_31 rfl (by decide) ?_
    refine r_getr (x := 430) dX11_sets_32 flX11_7 sf429 (by decide) (by decide) rfl rfl ?_
    refine r_bipush dX11_sets_35 (by decide) (by decide) ?_
    refine r_iald dX11_sets_37 sf430 (by decide) (by omega) (by omega) (by decide) ((lsm_o (by omega)).trans hn) ?_
    refine r_icmp_ge (tgt := 101) dX11_sets_38 (by decide) (fun h38 => ?_) (fun h38 => by exfalso; omega)
    refine r_iload_n dX11_sets_101 rfl ?_
    refine r_if_ne (tgt := 112) dX11_sets_102 (by decide) (fun h102 => ?_) (fun h102 => ?_)
    · try have h102 := bi_1.mp h102
      refine r_iload_n dX11_sets_112 rfl ?_
      refine r_iret dX11_sets_113 rfl ?_
      first | exact ⟨rfl, Or.inl ⟨by omega, rfl, rfl⟩⟩ | exact ⟨rfl, Or.inr (Or.inl ⟨by omega, rfl, rfl⟩)⟩ | exact ⟨rfl, Or.inr (Or.inr (⟨by omega, rfl, rfl⟩))⟩
    · try have h102 := bi_0.mp h102
      refine r_aload_n dX11_sets_105 rfl (by decide) ?_
      refine r_gi 25 dX11_sets_106 flX11_415 sf429 (by decide) (by decide) rfl rfl (by first | assumption | ((repeat (first | (apply rd_ne; · omega) | (apply rd_eq; · omega) | (apply rd_out; · omega) | (apply rd_in; · omega) | (apply rd_lo; · omega) | (apply rd_lF; · omega) | (apply rd_lX; · omega))); first | assumption | rfl)) ?_
      refine r_goto (tgt := 113) dX11_sets_109 (by decide) ?_
      refine r_iret dX11_sets_113 rfl ?_
      first | exact ⟨rfl, Or.inl ⟨by omega, rfl, rfl⟩⟩ | exact ⟨rfl, Or.inr (Or.inl ⟨by omega, rfl, rfl⟩)⟩ | exact ⟨rfl, Or.inr (Or.inr (⟨by omega, rfl, rfl⟩))⟩
  | succ m ih =>
    intro i hi
    have gT : and32 (shr32 (al : Int) i) 1 = 1 → (wth (M 430) n n6 al (al + 1)) i = (if u = 1 then (fnd (M 430) n n6 al (al + 1)) else 0) → or32 (stA al (fnd (M 430) n n6 al (al + 1)) (wth (M 430) n n6 al (al + 1)) u i) (shl32 1 i) = stA al (fnd (M 430) n n6 al (al + 1)) (wth (M 430) n n6 al (al + 1)) u (i + 1) := fun a b => (bset_t (p := (fun c : Int => and32 (shr32 (al : Int) c) 1 = 1 ∧ (wth (M 430) n n6 al (al + 1)) c = (if u = 1 then (fnd (M 430) n n6 al (al + 1)) else 0))) (f := fun c => c) ⟨a, b⟩).symm
    have gF : ¬ (and32 (shr32 (al : Int) i) 1 = 1 ∧ (wth (M 430) n n6 al (al + 1)) i = (if u = 1 then (fnd (M 430) n n6 al (al + 1)) else 0)) → or32 (stA al (fnd (M 430) n n6 al (al + 1)) (wth (M 430) n n6 al (al + 1)) u i) 0 = stA al (fnd (M 430) n n6 al (al + 1)) (wth (M 430) n n6 al (al + 1)) u (i + 1) := fun a => (bset_f (p := (fun c : Int => and32 (shr32 (al : Int) c) 1 = 1 ∧ (wth (M 430) n n6 al (al + 1)) c = (if u = 1 then (fnd (M 430) n n6 al (al + 1)) else 0))) (f := fun c => c) a).symm
    refine r_iload dX11_sets_29 rfl ?_
    refine r_aload_n dX11_sets_31 rfl (by decide) ?_
    refine r_getr (x := 430) dX11_sets_32 flX11_7 sf429 (by decide) (by decide) rfl rfl ?_
    refine r_bipush dX11_sets_35 (by decide) (by decide) ?_
    refine r_iald dX11_sets_37 sf430 (by decide) (by omega) (by omega) (by decide) ((lsm_o (by omega)).trans hn) ?_
    refine r_icmp_ge (tgt := 101) dX11_sets_38 (by decide) (fun h38 => by exfalso; omega) (fun h38 => ?_)
    refine r_aload_n dX11_sets_41 rfl (by decide) ?_
    refine r_gi 25 dX11_sets_42 flX11_415 sf429 (by decide) (by decide) rfl rfl (by first | assumption | ((repeat (first | (apply rd_ne; · omega) | (apply rd_eq; · omega) | (apply rd_out; · omega) | (apply rd_in; · omega) | (apply rd_lo; · omega) | (apply rd_lF; · omega) | (apply rd_lX; · omega))); first | assumption | rfl)) ?_
    refine r_if_le (tgt := 101) dX11_sets_45 (by decide) (fun h45 => by exfalso; omega) (fun h45 => ?_)
    refine r_iload_n dX11_sets_48 rfl ?_
    refine r_aload_n dX11_sets_49 rfl (by decide) ?_
    refine r_iload_n dX11_sets_50 rfl ?_
    refine r_cv1 dX11_sets_51 clX11_387 sf429 (by decide) (by decide) rfl (by first | decide | omega) (Nat.le_of_ble_eq_true rfl) (c_ownedBy ((lsm_o (by omega)).trans hn) hn12) ⟨Nat.zero_le _, Nat.zero_le _⟩ (fun _ => ?_)
    rw [lsm_row, show bset (fun c : Int => M 430 (15 + 7 * c + 2) = p) (fun c => c) n = (al : Int) from hal]
    refine r_iload dX11_sets_54 rfl ?_
    refine r_cs2 dX11_sets_56 clX11_84 (by first | decide | omega) (Nat.le_of_ble_eq_true rfl) (c_has) ⟨Nat.zero_le _, Nat.zero_le _⟩ (fun _ => ?_)
    refine r_if_eq (tgt := 92) dX11_sets_59 (by decide) (fun h59 => ?_) (fun h59 => ?_)
    · try have h59 := bi_0.mp h59
      refine r_iconst dX11_sets_92 (by decide) ?_
      refine r_ior dX11_sets_93 rfl ?_
      refine r_istore_n dX11_sets_94 rfl (by decide) st3 ?_
      refine r_iinc dX11_sets_95 rfl rfl (by decide) (w32_id (by omega)) st4 ?_
      refine r_goto (tgt := 29) dX11_sets_98 (by decide) ?_
      first | exact V.al (by rw [gF (fun q => h59 q.1)]; rfl) (ih (i + 1) (by omega)) | exact V.al (by rw [gF (fun q => h82 (q.2.trans (if_pos (by omega))))]; rfl) (ih (i + 1) (by omega)) | exact V.al (by rw [gF (fun q => h82 (q.2.trans (if_neg (by omega))))]; rfl) (ih (i + 1) (by omega)) | exact V.al (by rw [gT h59 (h82.trans (if_pos (by omega)).symm)]; rfl) (ih (i + 1) (by omega)) | exact V.al (by rw [gT h59 (h82.trans (if_neg (by omega)).symm)]; rfl) (ih (i + 1) (by omega))
    · try have h59 := bi_1.mp h59
      refine r_aload_n dX11_sets_62 rfl (by decide) ?_
      refine r_getr (x := 440) dX11_sets_63 flX11_49 sf429 (by decide) (by decide) rfl rfl ?_
      refine r_iload dX11_sets_66 rfl ?_
      refine r_iald dX11_sets_68 sf440 (by decide) (by omega) (by omega) (by decide) (by first | assumption | ((repeat (first | (apply rd_ne; · omega) | (apply rd_eq; · omega) | (apply rd_out; · omega) | (apply rd_in; · omega) | (apply rd_lo; · omega) | (apply rd_lF; · omega) | (apply rd_lX; · omega))); first | assumption | rfl)) ?_
      refine r_iload_n dX11_sets_69 rfl ?_
      refine r_iconst dX11_sets_70 (by decide) ?_
      refine r_icmp_ne (tgt := 81) dX11_sets_71 (by decide) (fun h71 => ?_) (fun h71 => ?_)
      · refine r_iconst dX11_sets_81 (by decide) ?_
        refine r_icmp_ne (tgt := 92) dX11_sets_82 (by decide) (fun h82 => ?_) (fun h82 => ?_)
        · refine r_iconst dX11_sets_92 (by decide) ?_
          refine r_ior dX11_sets_93 rfl ?_
          refine r_istore_n dX11_sets_94 rfl (by decide) st3 ?_
          refine r_iinc dX11_sets_95 rfl rfl (by decide) (w32_id (by omega)) st4 ?_
          refine r_goto (tgt := 29) dX11_sets_98 (by decide) ?_
          first | exact V.al (by rw [gF (fun q => h59 q.1)]; rfl) (ih (i + 1) (by omega)) | exact V.al (by rw [gF (fun q => h82 (q.2.trans (if_pos (by omega))))]; rfl) (ih (i + 1) (by omega)) | exact V.al (by rw [gF (fun q => h82 (q.2.trans (if_neg (by omega))))]; rfl) (ih (i + 1) (by omega)) | exact V.al (by rw [gT h59 (h82.trans (if_pos (by omega)).symm)]; rfl) (ih (i + 1) (by omega)) | exact V.al (by rw [gT h59 (h82.trans (if_neg (by omega)).symm)]; rfl) (ih (i + 1) (by omega))
        · refine r_iconst dX11_sets_85 (by decide) ?_
          refine r_iload dX11_sets_86 rfl ?_
          refine r_ishl dX11_sets_88 rfl ?_
          refine r_goto (tgt := 93) dX11_sets_89 (by decide) ?_
          refine r_ior dX11_sets_93 rfl ?_
          refine r_istore_n dX11_sets_94 rfl (by decide) st3 ?_
          refine r_iinc dX11_sets_95 rfl rfl (by decide) (w32_id (by omega)) st4 ?_
          refine r_goto (tgt := 29) dX11_sets_98 (by decide) ?_
          first | exact V.al (by rw [gF (fun q => h59 q.1)]; rfl) (ih (i + 1) (by omega)) | exact V.al (by rw [gF (fun q => h82 (q.2.trans (if_pos (by omega))))]; rfl) (ih (i + 1) (by omega)) | exact V.al (by rw [gF (fun q => h82 (q.2.trans (if_neg (by omega))))]; rfl) (ih (i + 1) (by omega)) | exact V.al (by rw [gT h59 (h82.trans (if_pos (by omega)).symm)]; rfl) (ih (i + 1) (by omega)) | exact V.al (by rw [gT h59 (h82.trans (if_neg (by omega)).symm)]; rfl) (ih (i + 1) (by omega))
      · refine r_aload_n dX11_sets_74 rfl (by decide) ?_
        refine r_gi 25 dX11_sets_75 flX11_415 sf429 (by decide) (by decide) rfl rfl (by first | assumption | ((repeat (first | (apply rd_ne; · omega) | (apply rd_eq; · omega) | (apply rd_out; · omega) | (apply rd_in; · omega) | (apply rd_lo; · omega) | (apply rd_lF; · omega) | (apply rd_lX; · omega))); first | assumption | rfl)) ?_
        refine r_goto (tgt := 82) dX11_sets_78 (by decide) ?_
        refine r_icmp_ne (tgt := 92) dX11_sets_82 (by decide) (fun h82 => ?_) (fun h82 => ?_)
        · refine r_iconst dX11_sets_92 (by decide) ?_
          refine r_ior dX11_sets_93 rfl ?_
          refine r_istore_n dX11_sets_94 rfl (by decide) st3 ?_
          refine r_iinc dX11_sets_95 rfl rfl (by decide) (w32_id (by omega)) st4 ?_
          refine r_goto (tgt := 29) dX11_sets_98 (by decide) ?_
          first | exact V.al (by rw [gF (fun q => h59 q.1)]; rfl) (ih (i + 1) (by omega)) | exact V.al (by rw [gF (fun q => h82 (q.2.trans (if_pos (by omega))))]; rfl) (ih (i + 1) (by omega)) | exact V.al (by rw [gF (fun q => h82 (q.2.trans (if_neg (by omega))))]; rfl) (ih (i + 1) (by omega)) | exact V.al (by rw [gT h59 (h82.trans (if_pos (by omega)).symm)]; rfl) (ih (i + 1) (by omega)) | exact V.al (by rw [gT h59 (h82.trans (if_neg (by omega)).symm)]; rfl) (ih (i + 1) (by omega))
        · refine r_iconst dX11_sets_85 (by decide) ?_
          refine r_iload dX11_sets_86 rfl ?_
          refine r_ishl dX11_sets_88 rfl ?_
          refine r_goto (tgt := 93) dX11_sets_89 (by decide) ?_
          refine r_ior dX11_sets_93 rfl ?_
          refine r_istore_n dX11_sets_94 rfl (by decide) st3 ?_
          refine r_iinc dX11_sets_95 rfl rfl (by decide) (w32_id (by omega)) st4 ?_
          refine r_goto (tgt := 29) dX11_sets_98 (by decide) ?_
          first | exact V.al (by rw [gF (fun q => h59 q.1)]; rfl) (ih (i + 1) (by omega)) | exact V.al (by rw [gF (fun q => h82 (q.2.trans (if_pos (by omega))))]; rfl) (ih (i + 1) (by omega)) | exact V.al (by rw [gF (fun q => h82 (q.2.trans (if_neg (by omega))))]; rfl) (ih (i + 1) (by omega)) | exact V.al (by rw [gT h59 (h82.trans (if_pos (by omega)).symm)]; rfl) (ih (i + 1) (by omega)) | exact V.al (by rw [gT h59 (h82.trans (if_neg (by omega)).symm)]; rfl) (ih (i + 1) (by omega))
theorem m_sets {x y z : Int} {M : Me} {p u : Int} (h0 : 0 ≤ M 430 0 ∧ M 430 0 ≤ 5) {n : Nat} (hn : M 430 14 = (n : Int)) (hn12 : n ≤ 12) {n6 : Nat} (h6 : M 430 6 = (n6 : Int)) (h68 : n6 ≤ 8) (hto : ∀ c : Int, 0 ≤ c → c < n → 0 ≤ M 430 (15 + 7 * c + 4) ∧ M 430 (15 + 7 * c + 4) ≤ 9) {al : Nat} (hal : bset (fun c : Int => M 430 (15 + 7 * c + 2) = p) (fun c => c) n = (al : Int)) (hal2 : al < 4096) : Con kX11_sets 4 0 0 [(1, 429), (0, p), (0, u)] (Sf x y z) M (fun v9 S9 M9 => S9 = (Sf x y z) ∧ ((¬ ((0 ≤ p ∧ p < M 430 0) ∧ 0 ≤ u ∧ u ≤ 2)) ∧ v9 = some (0, -1) ∧ M9 = M ∨ (((0 ≤ p ∧ p < M 430 0) ∧ 0 ≤ u ∧ u ≤ 2) ∧ u = 0) ∧ v9 = some (0, (fnd (M 430) n n6 al (al + 1))) ∧ M9 = (lsm M (fnd (M 430) n n6 al (al + 1)) (wth (M 430) n n6 al (al + 1))) ∨ (((0 ≤ p ∧ p < M 430 0) ∧ 0 ≤ u ∧ u ≤ 2) ∧ u ≠ 0 ∧ 0 < (fnd (M 430) n n6 al (al + 1))) ∧ v9 = some (0, stA al (fnd (M 430) n n6 al (al + 1)) (wth (M 430) n n6 al (al + 1)) u n) ∧ M9 = (lsm M (fnd (M 430) n n6 al (al + 1)) (wth (M 430) n n6 al (al + 1))) ∨ (((0 ≤ p ∧ p < M 430 0) ∧ 0 ≤ u ∧ u ≤ 2) ∧ u ≠ 0 ∧ ¬ 0 < (fnd (M 430) n n6 al (al + 1))) ∧ v9 = some (0, 0) ∧ M9 = (lsm M (fnd (M 430) n n6 al (al + 1)) (wth (M 430) n n6 al (al + 1))))) := by
  refine Con.ofV (al := [(1, 429), (0, p), (0, u), (9, 0), (9, 0)]) 2 (by decide) (Nat.le_of_ble_eq_true rfl) rfl ?_
  refine r_aload_n dX11_sets_0 rfl (by decide) ?_
  refine r_iload_n dX11_sets_1 rfl ?_
  refine r_cv1 dX11_sets_2 clX11_74 sf429 (by decide) (by decide) rfl (by first | decide | omega) (Nat.le_of_ble_eq_true rfl) (m_isPerson h0) ⟨Nat.zero_le _, Nat.zero_le _⟩ (fun _ => ?_)
  refine r_if_eq (tgt := 17) dX11_sets_5 (by decide) (fun h5 => ?_) (fun h5 => ?_)
  · try have h5 := bi_0.mp h5
    refine r_iconst dX11_sets_17 (by decide) ?_
    refine r_iret dX11_sets_18 rfl ?_
    first | exact ⟨rfl, Or.inl ⟨by omega, rfl, rfl⟩⟩ | exact ⟨rfl, Or.inr (Or.inl ⟨by omega, rfl, rfl⟩)⟩ | exact ⟨rfl, Or.inr (Or.inr (Or.inl ⟨by omega, rfl, rfl⟩))⟩ | exact ⟨rfl, Or.inr (Or.inr (Or.inr (⟨by omega, rfl, rfl⟩)))⟩
  · try have h5 := bi_1.mp h5
    refine r_iload_n dX11_sets_8 rfl ?_
    refine r_iconst dX11_sets_9 (by decide) ?_
    refine r_iconst dX11_sets_10 (by decide) ?_
    refine r_cs3 dX11_sets_11 clX11_62 (by first | decide | omega) (Nat.le_of_ble_eq_true rfl) (c_isIn) ⟨Nat.zero_le _, Nat.zero_le _⟩ (fun _ => ?_)
    refine r_if_ne (tgt := 19) dX11_sets_14 (by decide) (fun h14 => ?_) (fun h14 => ?_)
    · try have h14 := bi_1.mp h14
      refine r_aload_n dX11_sets_19 rfl (by decide) ?_
      refine r_iload_n dX11_sets_20 rfl ?_
      refine r_cw1 dX11_sets_21 clX11_421 sf429 (by decide) (by decide) rfl (by first | decide | omega) (Nat.le_of_ble_eq_true rfl) ((m_laySets hn hn12 h6 h68 hto hal hal2)) ⟨Nat.zero_le _, Nat.zero_le _⟩ ?_
      refine r_iconst dX11_sets_24 (by decide) ?_
      refine r_istore_n dX11_sets_25 rfl (by decide) st3 ?_
      refine r_iconst dX11_sets_26 (by decide) ?_
      refine r_istore dX11_sets_27 rfl (by decide) st4 ?_
      by_cases hF : 0 < (fnd (M 430) n n6 al (al + 1))
      · refine V.mono (l_sets hn hn12 h6 h68 hto hal hal2 hF (by omega) n 0 (by omega)) (fun v9 S9 M9 q => ?_)
        obtain ⟨q0, q⟩ := q
        rcases q with q | q | q
        · exact ⟨q0, Or.inr (Or.inl ⟨by omega, q.2⟩)⟩
        · exact ⟨q0, Or.inr (Or.inr (Or.inl ⟨by omega, q.2⟩))⟩
        · exact absurd hF q.1.2
      · refine r_iload dX11_sets_29 rfl ?_
        refine r_aload_n dX11_sets_31 rfl (by decide) ?_
        refine r_getr (x := 430) dX11_sets_32 flX11_7 sf429 (by decide) (by decide) rfl rfl ?_
        refine r_bipush dX11_sets_35 (by decide) (by decide) ?_
        refine r_iald dX11_sets_37 sf430 (by decide) (by omega) (by omega) (by decide) ((lsm_o (by omega)).trans hn) ?_
        refine r_icmp_ge (tgt := 101) dX11_sets_38 (by decide) (fun h38 => ?_) (fun h38 => ?_)
        · refine r_iload_n dX11_sets_101 rfl ?_
          refine r_if_ne (tgt := 112) dX11_sets_102 (by decide) (fun h102 => ?_) (fun h102 => ?_)
          · try have h102 := bi_1.mp h102
            refine r_iload_n dX11_sets_112 rfl ?_
            refine r_iret dX11_sets_113 rfl ?_
            first | exact ⟨rfl, Or.inl ⟨by omega, rfl, rfl⟩⟩ | exact ⟨rfl, Or.inr (Or.inl ⟨by omega, rfl, rfl⟩)⟩ | exact ⟨rfl, Or.inr (Or.inr (Or.inl ⟨by omega, rfl, rfl⟩))⟩ | exact ⟨rfl, Or.inr (Or.inr (Or.inr (⟨by omega, rfl, rfl⟩)))⟩
          · try have h102 := bi_0.mp h102
            refine r_aload_n dX11_sets_105 rfl (by decide) ?_
            refine r_gi 25 dX11_sets_106 flX11_415 sf429 (by decide) (by decide) rfl rfl (by first | assumption | ((repeat (first | (apply rd_ne; · omega) | (apply rd_eq; · omega) | (apply rd_out; · omega) | (apply rd_in; · omega) | (apply rd_lo; · omega) | (apply rd_lF; · omega) | (apply rd_lX; · omega))); first | assumption | rfl)) ?_
            refine r_goto (tgt := 113) dX11_sets_109 (by decide) ?_
            refine r_iret dX11_sets_113 rfl ?_
            first | exact ⟨rfl, Or.inl ⟨by omega, rfl, rfl⟩⟩ | exact ⟨rfl, Or.inr (Or.inl ⟨by omega, rfl, rfl⟩)⟩ | exact ⟨rfl, Or.inr (Or.inr (Or.inl ⟨by omega, rfl, rfl⟩))⟩ | exact ⟨rfl, Or.inr (Or.inr (Or.inr (⟨by omega, rfl, rfl⟩)))⟩
        · refine r_aload_n dX11_sets_41 rfl (by decide) ?_
          refine r_gi 25 dX11_sets_42 flX11_415 sf429 (by decide) (by decide) rfl rfl (by first | assumption | ((repeat (first | (apply rd_ne; · omega) | (apply rd_eq; · omega) | (apply rd_out; · omega) | (apply rd_in; · omega) | (apply rd_lo; · omega) | (apply rd_lF; · omega) | (apply rd_lX; · omega))); first | assumption | rfl)) ?_
          refine r_if_le (tgt := 101) dX11_sets_45 (by decide) (fun h45 => ?_) (fun h45 => by exfalso; omega)
          refine r_iload_n dX11_sets_101 rfl ?_
          refine r_if_ne (tgt := 112) dX11_sets_102 (by decide) (fun h102 => ?_) (fun h102 => ?_)
          · try have h102 := bi_1.mp h102
            refine r_iload_n dX11_sets_112 rfl ?_
            refine r_iret dX11_sets_113 rfl ?_
            first | exact ⟨rfl, Or.inl ⟨by omega, rfl, rfl⟩⟩ | exact ⟨rfl, Or.inr (Or.inl ⟨by omega, rfl, rfl⟩)⟩ | exact ⟨rfl, Or.inr (Or.inr (Or.inl ⟨by omega, rfl, rfl⟩))⟩ | exact ⟨rfl, Or.inr (Or.inr (Or.inr (⟨by omega, rfl, rfl⟩)))⟩
          · try have h102 := bi_0.mp h102
            refine r_aload_n dX11_sets_105 rfl (by decide) ?_
            refine r_gi 25 dX11_sets_106 flX11_415 sf429 (by decide) (by decide) rfl rfl (by first | assumption | ((repeat (first | (apply rd_ne; · omega) | (apply rd_eq; · omega) | (apply rd_out; · omega) | (apply rd_in; · omega) | (apply rd_lo; · omega) | (apply rd_lF; · omega) | (apply rd_lX; · omega))); first | assumption | rfl)) ?_
            refine r_goto (tgt := 113) dX11_sets_109 (by decide) ?_
            refine r_iret dX11_sets_113 rfl ?_
            first | exact ⟨rfl, Or.inl ⟨by omega, rfl, rfl⟩⟩ | exact ⟨rfl, Or.inr (Or.inl ⟨by omega, rfl, rfl⟩)⟩ | exact ⟨rfl, Or.inr (Or.inr (Or.inl ⟨by omega, rfl, rfl⟩))⟩ | exact ⟨rfl, Or.inr (Or.inr (Or.inr (⟨by omega, rfl, rfl⟩)))⟩
    · try have h14 := bi_0.mp h14
      refine r_iconst dX11_sets_17 (by decide) ?_
      refine r_iret dX11_sets_18 rfl ?_
      first | exact ⟨rfl, Or.inl ⟨by omega, rfl, rfl⟩⟩ | exact ⟨rfl, Or.inr (Or.inl ⟨by omega, rfl, rfl⟩)⟩ | exact ⟨rfl, Or.inr (Or.inr (Or.inl ⟨by omega, rfl, rfl⟩))⟩ | exact ⟨rfl, Or.inr (Or.inr (Or.inr (⟨by omega, rfl, rfl⟩)))⟩
def nxd (F x : Int) : Int := if F < 2 * x then 2 * x - F else F - 2 * x
/-- the next question: which crease is nearest to half, and how far off -/
def nxS (F : Int) (X : Int → Int) : Nat → Int × Int
  | 0 => (-1, 1000000000)
  | i + 1 => if X i ≠ 0 ∧ X i ≠ F ∧ nxd F (X i) < (nxS F X i).2 then ((i : Int), nxd F (X i)) else nxS F X i
theorem nxS_t {F : Int} {X : Int → Int} {i : Nat} {d : Int} (hd : nxd F (X i) = d) (h : X i ≠ 0 ∧ X i ≠ F ∧ d < (nxS F X i).2) : nxS F X (i + 1) = ((i : Int), d) := by subst hd; exact if_pos h
theorem nxS_f {F : Int} {X : Int → Int} {i : Nat} {d : Int} (hd : nxd F (X i) = d) (h : ¬ (X i ≠ 0 ∧ X i ≠ F ∧ d < (nxS F X i).2)) : nxS F X (i + 1) = nxS F X i := by subst hd; exact if_neg h
theorem l_next {x y z : Int} {M : Me} {p : Int} {n : Nat} (hn : M 430 14 = (n : Int)) (hn12 : n ≤ 12) {n6 : Nat} (h6 : M 430 6 = (n6 : Int)) (h68 : n6 ≤ 8) (hto : ∀ c : Int, 0 ≤ c → c < n → 0 ≤ M 430 (15 + 7 * c + 4) ∧ M 430 (15 + 7 * c + 4) ≤ 9) {al : Nat} (hal : bset (fun c : Int => M 430 (15 + 7 * c + 2) = p) (fun c => c) n = (al : Int)) (hal2 : al < 4096) : ∀ (m i : Nat), m + i = n → V kX11_next 0 0 4 none (fun v9 S9 M9 => S9 = (Sf x y z) ∧ M9 = (lsm M (fnd (M 430) n n6 al (al + 1)) (wth (M 430) n n6 al (al + 1))) ∧ v9 = some (0, (nxS (fnd (M 430) n n6 al (al + 1)) (wth (M 430) n n6 al (al + 1)) n).1)) 24 [(1, 429), (0, p), (0, (nxS (fnd (M 430) n n6 al (al + 1)) (wth (M 430) n n6 al (al + 1)) i).1), (0, (nxS (fnd (M 430) n n6 al (al + 1)) (wth (M 430) n n6 al (al + 1)) i).2), (0, ((i : Nat) : Int)), (9, 0)] [] (Sf x y z) (lsm M (fnd (M 430) n n6 al (al + 1)) (wth (M 430) n n6 al (al + 1))) 0 0 := by
  intro m
  induction m with
  | zero =>
    intro i hi
    obtain rfl : i = n := by omega
    refine r_iload dX11_next_24 rfl ?_
    refine r_aload_n dX11_next_26 rfl (by decide) ?_
    refine r_getr (x := 430) dX11_next_27 flX11_7 sf429 (by decide) (by decide) rfl rfl ?_
    refine r_bipush dX11_next_30 (by decide) (by decide) ?_
    refine r_iald dX11_next_32 sf430 (by decide) (by omega) (by omega) (by decide) ((lsm_o (by omega)).trans hn) ?_
    refine r_icmp_ge (tgt := 130) dX11_next_33 (by decide) (fun h33 => ?_) (fun h33 => by exfalso; omega)
    refine r_iload_n dX11_next_130 rfl ?_
    refine r_iret dX11_next_131 rfl ?_
    exact ⟨rfl, rfl, rfl⟩
  | succ m ih =>
    intro i hi
    have hb := wth_b (a := M 430) (n := n) (n6 := n6) (al := al) (c := i) (by omega) (al + 1)
    have hb2 := fnd_b (a := M 430) (n := n) (n6 := n6) (al := al) (al + 1)
    refine r_iload dX11_next_24 rfl ?_
    refine r_aload_n dX11_next_26 rfl (by decide) ?_
    refine r_getr (x := 430) dX11_next_27 flX11_7 sf429 (by decide) (by decide) rfl rfl ?_
    refine r_bipush dX11_next_30 (by decide) (by decide) ?_
    refine r_iald dX11_next_32 sf430 (by decide) (by omega) (by omega) (by decide) ((lsm_o (by omega)).trans hn) ?_
    refine r_icmp_ge (tgt := 130) dX11_next_33 (by decide) (fun h33 => by exfalso; omega) (fun h33 => ?_)
    refine r_iconst dX11_next_36 (by decide) ?_
    refine r_aload_n dX11_next_37 rfl (by decide) ?_
    refine r_getr (x := 440) dX11_next_38 flX11_49 sf429 (by decide) (by decide) rfl rfl ?_
    refine r_iload dX11_next_41 rfl ?_
    refine r_iald dX11_next_43 sf440 (by decide) (by omega) (by omega) (by decide) (rd_lX (by omega) rfl) ?_
    refine r_imul dX11_next_44 (w32_id (by omega)) ?_
    refine r_aload_n dX11_next_45 rfl (by decide) ?_
    refine r_gi 25 dX11_next_46 flX11_415 sf429 (by decide) (by decide) rfl rfl (by first | assumption | ((repeat (first | (apply rd_ne; · omega) | (apply rd_eq; · omega) | (apply rd_out; · omega) | (apply rd_in; · omega) | (apply rd_lo; · omega) | (apply rd_lF; · omega) | (apply rd_lX; · omega))); first | assumption | rfl)) ?_
    refine r_icmp_le (tgt := 69) dX11_next_49 (by decide) (fun h49 => ?_) (fun h49 => ?_)
    · refine r_aload_n dX11_next_69 rfl (by decide) ?_
      refine r_gi 25 dX11_next_70 flX11_415 sf429 (by decide) (by decide) rfl rfl (by first | assumption | ((repeat (first | (apply rd_ne; · omega) | (apply rd_eq; · omega) | (apply rd_out; · omega) | (apply rd_in; · omega) | (apply rd_lo; · omega) | (apply rd_lF; · omega) | (apply rd_lX; · omega))); first | assumption | rfl)) ?_
      refine r_iconst dX11_next_73 (by decide) ?_
      refine r_aload_n dX11_next_74 rfl (by decide) ?_
      refine r_getr (x := 440) dX11_next_75 flX11_49 sf429 (by decide) (by decide) rfl rfl ?_
      refine r_iload dX11_next_78 rfl ?_
      refine r_iald dX11_next_80 sf440 (by decide) (by omega) (by omega) (by decide) (rd_lX (by omega) rfl) ?_
      refine r_imul dX11_next_81 (w32_id (by omega)) ?_
      refine r_isub dX11_next_82 (w32_id (by omega)) ?_
      refine r_istore dX11_next_83 rfl (by decide) st5 ?_
      refine r_aload_n dX11_next_85 rfl (by decide) ?_
      refine r_getr (x := 440) dX11_next_86 flX11_49 sf429 (by decide) (by decide) rfl rfl ?_
      refine r_iload dX11_next_89 rfl ?_
      refine r_iald dX11_next_91 sf440 (by decide) (by omega) (by omega) (by decide) (rd_lX (by omega) rfl) ?_
      refine r_if_eq (tgt := 124) dX11_next_92 (by decide) (fun h92 => ?_) (fun h92 => ?_)
      · try have h92 := bi_0.mp h92
        refine r_iinc dX11_next_124 rfl rfl (by decide) (w32_id (by omega)) st4 ?_
        refine r_goto (tgt := 24) dX11_next_127 (by decide) ?_
        refine wk5 ?_
        first | exact V.al (by rw [show nxS (fnd (M 430) n n6 al (al + 1)) (wth (M 430) n n6 al (al + 1)) (i + 1) = _ from nxS_t (if_pos (by omega)) ⟨by omega, by omega, by omega⟩]; rfl) (ih (i + 1) (by omega)) | exact V.al (by rw [show nxS (fnd (M 430) n n6 al (al + 1)) (wth (M 430) n n6 al (al + 1)) (i + 1) = _ from nxS_t (if_neg (by omega)) ⟨by omega, by omega, by omega⟩]; rfl) (ih (i + 1) (by omega)) | exact V.al (by rw [show nxS (fnd (M 430) n n6 al (al + 1)) (wth (M 430) n n6 al (al + 1)) (i + 1) = _ from nxS_f (if_pos (by omega)) (by omega)]; rfl) (ih (i + 1) (by omega)) | exact V.al (by rw [show nxS (fnd (M 430) n n6 al (al + 1)) (wth (M 430) n n6 al (al + 1)) (i + 1) = _ from nxS_f (if_neg (by omega)) (by omega)]; rfl) (ih (i + 1) (by omega))
      · try have h92 := bi_1.mp h92
        refine r_aload_n dX11_next_95 rfl (by decide) ?_
        refine r_getr (x := 440) dX11_next_96 flX11_49 sf429 (by decide) (by decide) rfl rfl ?_
        refine r_iload dX11_next_99 rfl ?_
        refine r_iald dX11_next_101 sf440 (by decide) (by omega) (by omega) (by decide) (rd_lX (by omega) rfl) ?_
        refine r_aload_n dX11_next_102 rfl (by decide) ?_
        refine r_gi 25 dX11_next_103 flX11_415 sf429 (by decide) (by decide) rfl rfl (by first | assumption | ((repeat (first | (apply rd_ne; · omega) | (apply rd_eq; · omega) | (apply rd_out; · omega) | (apply rd_in; · omega) | (apply rd_lo; · omega) | (apply rd_lF; · omega) | (apply rd_lX; · omega))); first | assumption | rfl)) ?_
        refine r_icmp_eq (tgt := 124) dX11_next_106 (by decide) (fun h106 => ?_) (fun h106 => ?_)
        · refine r_iinc dX11_next_124 rfl rfl (by decide) (w32_id (by omega)) st4 ?_
          refine r_goto (tgt := 24) dX11_next_127 (by decide) ?_
          refine wk5 ?_
          first | exact V.al (by rw [show nxS (fnd (M 430) n n6 al (al + 1)) (wth (M 430) n n6 al (al + 1)) (i + 1) = _ from nxS_t (if_pos (by omega)) ⟨by omega, by omega, by omega⟩]; rfl) (ih (i + 1) (by omega)) | exact V.al (by rw [show nxS (fnd (M 430) n n6 al (al + 1)) (wth (M 430) n n6 al (al + 1)) (i + 1) = _ from nxS_t (if_neg (by omega)) ⟨by omega, by omega, by omega⟩]; rfl) (ih (i + 1) (by omega)) | exact V.al (by rw [show nxS (fnd (M 430) n n6 al (al + 1)) (wth (M 430) n n6 al (al + 1)) (i + 1) = _ from nxS_f (if_pos (by omega)) (by omega)]; rfl) (ih (i + 1) (by omega)) | exact V.al (by rw [show nxS (fnd (M 430) n n6 al (al + 1)) (wth (M 430) n n6 al (al + 1)) (i + 1) = _ from nxS_f (if_neg (by omega)) (by omega)]; rfl) (ih (i + 1) (by omega))
        · refine r_iload dX11_next_109 rfl ?_
          refine r_iload_n dX11_next_111 rfl ?_
          refine r_icmp_lt (tgt := 118) dX11_next_112 (by decide) (fun h112 => ?_) (fun h112 => ?_)
          · refine r_iload dX11_next_118 rfl ?_
            refine r_istore_n dX11_next_120 rfl (by decide) st3 ?_
            refine r_iload dX11_next_121 rfl ?_
            refine r_istore_n dX11_next_123 rfl (by decide) st2 ?_
            refine r_iinc dX11_next_124 rfl rfl (by decide) (w32_id (by omega)) st4 ?_
            refine r_goto (tgt := 24) dX11_next_127 (by decide) ?_
            refine wk5 ?_
            first | exact V.al (by rw [show nxS (fnd (M 430) n n6 al (al + 1)) (wth (M 430) n n6 al (al + 1)) (i + 1) = _ from nxS_t (if_pos (by omega)) ⟨by omega, by omega, by omega⟩]; rfl) (ih (i + 1) (by omega)) | exact V.al (by rw [show nxS (fnd (M 430) n n6 al (al + 1)) (wth (M 430) n n6 al (al + 1)) (i + 1) = _ from nxS_t (if_neg (by omega)) ⟨by omega, by omega, by omega⟩]; rfl) (ih (i + 1) (by omega)) | exact V.al (by rw [show nxS (fnd (M 430) n n6 al (al + 1)) (wth (M 430) n n6 al (al + 1)) (i + 1) = _ from nxS_f (if_pos (by omega)) (by omega)]; rfl) (ih (i + 1) (by omega)) | exact V.al (by rw [show nxS (fnd (M 430) n n6 al (al + 1)) (wth (M 430) n n6 al (al + 1)) (i + 1) = _ from nxS_f (if_neg (by omega)) (by omega)]; rfl) (ih (i + 1) (by omega))
          · refine r_goto (tgt := 124) dX11_next_115 (by decide) ?_
            refine r_iinc dX11_next_124 rfl rfl (by decide) (w32_id (by omega)) st4 ?_
            refine r_goto (tgt := 24) dX11_next_127 (by decide) ?_
            refine wk5 ?_
            first | exact V.al (by rw [show nxS (fnd (M 430) n n6 al (al + 1)) (wth (M 430) n n6 al (al + 1)) (i + 1) = _ from nxS_t (if_pos (by omega)) ⟨by omega, by omega, by omega⟩]; rfl) (ih (i + 1) (by omega)) | exact V.al (by rw [show nxS (fnd (M 430) n n6 al (al + 1)) (wth (M 430) n n6 al (al + 1)) (i + 1) = _ from nxS_t (if_neg (by omega)) ⟨by omega, by omega, by omega⟩]; rfl) (ih (i + 1) (by omega)) | exact V.al (by rw [show nxS (fnd (M 430) n n6 al (al + 1)) (wth (M 430) n n6 al (al + 1)) (i + 1) = _ from nxS_f (if_pos (by omega)) (by omega)]; rfl) (ih (i + 1) (by omega)) | exact V.al (by rw [show nxS (fnd (M 430) n n6 al (al + 1)) (wth (M 430) n n6 al (al + 1)) (i + 1) = _ from nxS_f (if_neg (by omega)) (by omega)]; rfl) (ih (i + 1) (by omega))
    · refine r_iconst dX11_next_52 (by decide) ?_
      refine r_aload_n dX11_next_53 rfl (by decide) ?_
      refine r_getr (x := 440) dX11_next_54 flX11_49 sf429 (by decide) (by decide) rfl rfl ?_
      refine r_iload dX11_next_57 rfl ?_
      refine r_iald dX11_next_59 sf440 (by decide) (by omega) (by omega) (by decide) (rd_lX (by omega) rfl) ?_
      refine r_imul dX11_next_60 (w32_id (by omega)) ?_
      refine r_aload_n dX11_next_61 rfl (by decide) ?_
      refine r_gi 25 dX11_next_62 flX11_415 sf429 (by decide) (by decide) rfl rfl (by first | assumption | ((repeat (first | (apply rd_ne; · omega) | (apply rd_eq; · omega) | (apply rd_out; · omega) | (apply rd_in; · omega) | (apply rd_lo; · omega) | (apply rd_lF; · omega) | (apply rd_lX; · omega))); first | assumption | rfl)) ?_
      refine r_isub dX11_next_65 (w32_id (by omega)) ?_
      refine r_goto (tgt := 83) dX11_next_66 (by decide) ?_
      refine r_istore dX11_next_83 rfl (by decide) st5 ?_
      refine r_aload_n dX11_next_85 rfl (by decide) ?_
      refine r_getr (x := 440) dX11_next_86 flX11_49 sf429 (by decide) (by decide) rfl rfl ?_
      refine r_iload dX11_next_89 rfl ?_
      refine r_iald dX11_next_91 sf440 (by decide) (by omega) (by omega) (by decide) (rd_lX (by omega) rfl) ?_
      refine r_if_eq (tgt := 124) dX11_next_92 (by decide) (fun h92 => ?_) (fun h92 => ?_)
      · try have h92 := bi_0.mp h92
        refine r_iinc dX11_next_124 rfl rfl (by decide) (w32_id (by omega)) st4 ?_
        refine r_goto (tgt := 24) dX11_next_127 (by decide) ?_
        refine wk5 ?_
        first | exact V.al (by rw [show nxS (fnd (M 430) n n6 al (al + 1)) (wth (M 430) n n6 al (al + 1)) (i + 1) = _ from nxS_t (if_pos (by omega)) ⟨by omega, by omega, by omega⟩]; rfl) (ih (i + 1) (by omega)) | exact V.al (by rw [show nxS (fnd (M 430) n n6 al (al + 1)) (wth (M 430) n n6 al (al + 1)) (i + 1) = _ from nxS_t (if_neg (by omega)) ⟨by omega, by omega, by omega⟩]; rfl) (ih (i + 1) (by omega)) | exact V.al (by rw [show nxS (fnd (M 430) n n6 al (al + 1)) (wth (M 430) n n6 al (al + 1)) (i + 1) = _ from nxS_f (if_pos (by omega)) (by omega)]; rfl) (ih (i + 1) (by omega)) | exact V.al (by rw [show nxS (fnd (M 430) n n6 al (al + 1)) (wth (M 430) n n6 al (al + 1)) (i + 1) = _ from nxS_f (if_neg (by omega)) (by omega)]; rfl) (ih (i + 1) (by omega))
      · try have h92 := bi_1.mp h92
        refine r_aload_n dX11_next_95 rfl (by decide) ?_
        refine r_getr (x := 440) dX11_next_96 flX11_49 sf429 (by decide) (by decide) rfl rfl ?_
        refine r_iload dX11_next_99 rfl ?_
        refine r_iald dX11_next_101 sf440 (by decide) (by omega) (by omega) (by decide) (rd_lX (by omega) rfl) ?_
        refine r_aload_n dX11_next_102 rfl (by decide) ?_
        refine r_gi 25 dX11_next_103 flX11_415 sf429 (by decide) (by decide) rfl rfl (by first | assumption | ((repeat (first | (apply rd_ne; · omega) | (apply rd_eq; · omega) | (apply rd_out; · omega) | (apply rd_in; · omega) | (apply rd_lo; · omega) | (apply rd_lF; · omega) | (apply rd_lX; · omega))); first | assumption | rfl)) ?_
        refine r_icmp_eq (tgt := 124) dX11_next_106 (by decide) (fun h106 => ?_) (fun h106 => ?_)
        · refine r_iinc dX11_next_124 rfl rfl (by decide) (w32_id (by omega)) st4 ?_
          refine r_goto (tgt := 24) dX11_next_127 (by decide) ?_
          refine wk5 ?_
          first | exact V.al (by rw [show nxS (fnd (M 430) n n6 al (al + 1)) (wth (M 430) n n6 al (al + 1)) (i + 1) = _ from nxS_t (if_pos (by omega)) ⟨by omega, by omega, by omega⟩]; rfl) (ih (i + 1) (by omega)) | exact V.al (by rw [show nxS (fnd (M 430) n n6 al (al + 1)) (wth (M 430) n n6 al (al + 1)) (i + 1) = _ from nxS_t (if_neg (by omega)) ⟨by omega, by omega, by omega⟩]; rfl) (ih (i + 1) (by omega)) | exact V.al (by rw [show nxS (fnd (M 430) n n6 al (al + 1)) (wth (M 430) n n6 al (al + 1)) (i + 1) = _ from nxS_f (if_pos (by omega)) (by omega)]; rfl) (ih (i + 1) (by omega)) | exact V.al (by rw [show nxS (fnd (M 430) n n6 al (al + 1)) (wth (M 430) n n6 al (al + 1)) (i + 1) = _ from nxS_f (if_neg (by omega)) (by omega)]; rfl) (ih (i + 1) (by omega))
        · refine r_iload dX11_next_109 rfl ?_
          refine r_iload_n dX11_next_111 rfl ?_
          refine r_icmp_lt (tgt := 118) dX11_next_112 (by decide) (fun h112 => ?_) (fun h112 => ?_)
          · refine r_iload dX11_next_118 rfl ?_
            refine r_istore_n dX11_next_120 rfl (by decide) st3 ?_
            refine r_iload dX11_next_121 rfl ?_
            refine r_istore_n dX11_next_123 rfl (by decide) st2 ?_
            refine r_iinc dX11_next_124 rfl rfl (by decide) (w32_id (by omega)) st4 ?_
            refine r_goto (tgt := 24) dX11_next_127 (by decide) ?_
            refine wk5 ?_
            first | exact V.al (by rw [show nxS (fnd (M 430) n n6 al (al + 1)) (wth (M 430) n n6 al (al + 1)) (i + 1) = _ from nxS_t (if_pos (by omega)) ⟨by omega, by omega, by omega⟩]; rfl) (ih (i + 1) (by omega)) | exact V.al (by rw [show nxS (fnd (M 430) n n6 al (al + 1)) (wth (M 430) n n6 al (al + 1)) (i + 1) = _ from nxS_t (if_neg (by omega)) ⟨by omega, by omega, by omega⟩]; rfl) (ih (i + 1) (by omega)) | exact V.al (by rw [show nxS (fnd (M 430) n n6 al (al + 1)) (wth (M 430) n n6 al (al + 1)) (i + 1) = _ from nxS_f (if_pos (by omega)) (by omega)]; rfl) (ih (i + 1) (by omega)) | exact V.al (by rw [show nxS (fnd (M 430) n n6 al (al + 1)) (wth (M 430) n n6 al (al + 1)) (i + 1) = _ from nxS_f (if_neg (by omega)) (by omega)]; rfl) (ih (i + 1) (by omega))
          · refine r_goto (tgt := 124) dX11_next_115 (by decide) ?_
            refine r_iinc dX11_next_124 rfl rfl (by decide) (w32_id (by omega)) st4 ?_
            refine r_goto (tgt := 24) dX11_next_127 (by decide) ?_
            refine wk5 ?_
            first | exact V.al (by rw [show nxS (fnd (M 430) n n6 al (al + 1)) (wth (M 430) n n6 al (al + 1)) (i + 1) = _ from nxS_t (if_pos (by omega)) ⟨by omega, by omega, by omega⟩]; rfl) (ih (i + 1) (by omega)) | exact V.al (by rw [show nxS (fnd (M 430) n n6 al (al + 1)) (wth (M 430) n n6 al (al + 1)) (i + 1) = _ from nxS_t (if_neg (by omega)) ⟨by omega, by omega, by omega⟩]; rfl) (ih (i + 1) (by omega)) | exact V.al (by rw [show nxS (fnd (M 430) n n6 al (al + 1)) (wth (M 430) n n6 al (al + 1)) (i + 1) = _ from nxS_f (if_pos (by omega)) (by omega)]; rfl) (ih (i + 1) (by omega)) | exact V.al (by rw [show nxS (fnd (M 430) n n6 al (al + 1)) (wth (M 430) n n6 al (al + 1)) (i + 1) = _ from nxS_f (if_neg (by omega)) (by omega)]; rfl) (ih (i + 1) (by omega))
theorem m_next {x y z : Int} {M : Me} {p : Int} (h0 : 0 ≤ M 430 0 ∧ M 430 0 ≤ 5) {n : Nat} (hn : M 430 14 = (n : Int)) (hn12 : n ≤ 12) {n6 : Nat} (h6 : M 430 6 = (n6 : Int)) (h68 : n6 ≤ 8) (hto : ∀ c : Int, 0 ≤ c → c < n → 0 ≤ M 430 (15 + 7 * c + 4) ∧ M 430 (15 + 7 * c + 4) ≤ 9) {al : Nat} (hal : bset (fun c : Int => M 430 (15 + 7 * c + 2) = p) (fun c => c) n = (al : Int)) (hal2 : al < 4096) : Con kX11_next 4 0 0 [(1, 429), (0, p)] (Sf x y z) M (fun v9 S9 M9 => S9 = (Sf x y z) ∧ ((¬ (0 ≤ p ∧ p < M 430 0)) ∧ v9 = some (0, -1) ∧ M9 = M ∨ (0 ≤ p ∧ p < M 430 0) ∧ v9 = some (0, (nxS (fnd (M 430) n n6 al (al + 1)) (wth (M 430) n n6 al (al + 1)) n).1) ∧ M9 = (lsm M (fnd (M 430) n n6 al (al + 1)) (wth (M 430) n n6 al (al + 1))))) := by
  refine Con.ofV (al := [(1, 429), (0, p), (9, 0), (9, 0), (9, 0), (9, 0)]) 4 (by decide) (Nat.le_of_ble_eq_true rfl) rfl ?_
  refine r_aload_n dX11_next_0 rfl (by decide) ?_
  refine r_iload_n dX11_next_1 rfl ?_
  refine r_cv1 dX11_next_2 clX11_74 sf429 (by decide) (by decide) rfl (by first | decide | omega) (Nat.le_of_ble_eq_true rfl) (m_isPerson h0) ⟨Nat.zero_le _, Nat.zero_le _⟩ (fun _ => ?_)
  refine r_if_ne (tgt := 10) dX11_next_5 (by decide) (fun h5 => ?_) (fun h5 => ?_)
  · try have h5 := bi_1.mp h5
    refine r_aload_n dX11_next_10 rfl (by decide) ?_
    refine r_iload_n dX11_next_11 rfl ?_
    refine r_cw1 dX11_next_12 clX11_421 sf429 (by decide) (by decide) rfl (by first | decide | omega) (Nat.le_of_ble_eq_true rfl) ((m_laySets hn hn12 h6 h68 hto hal hal2)) ⟨Nat.zero_le _, Nat.zero_le _⟩ ?_
    refine r_iconst dX11_next_15 (by decide) ?_
    refine r_istore_n dX11_next_16 rfl (by decide) st2 ?_
    refine r_ldcw (x := 1000000000) dX11_next_17 ctX11_408 (by decide) ?_
    refine r_istore_n dX11_next_20 rfl (by decide) st3 ?_
    refine r_iconst dX11_next_21 (by decide) ?_
    refine r_istore dX11_next_22 rfl (by decide) st4 ?_
    refine V.mono (l_next hn hn12 h6 h68 hto hal hal2 n 0 (by omega)) (fun v9 S9 M9 q => ⟨q.1, Or.inr ⟨by omega, q.2.2, q.2.1⟩⟩)
  · try have h5 := bi_0.mp h5
    refine r_iconst dX11_next_8 (by decide) ?_
    refine r_iret dX11_next_9 rfl ?_
    first | exact ⟨rfl, Or.inl ⟨by omega, rfl, rfl⟩⟩ | exact ⟨rfl, Or.inr (⟨by omega, rfl, rfl⟩)⟩
