def evM (M : Me) (X Z : Int → Int) : Me := row1 (row1 M 436 330 X) 437 330 Z
theorem evM_o {M : Me} {X Z : Int → Int} {a j : Int} (h : ¬ (a = 436 ∧ 0 ≤ j ∧ j < 330) ∧ ¬ (a = 437 ∧ 0 ≤ j ∧ j < 330)) : evM M X Z a j = M a j := (row1_o h.2).trans (row1_o h.1)
theorem rd_evX {M : Me} {X Z : Int → Int} {a j z : Int} (h : a = 436 ∧ 0 ≤ j ∧ j < 330) (k : X j = z) : evM M X Z a j = z := rd_r0 (by omega) (rd_rX h k)
theorem rd_evY {M : Me} {X Z : Int → Int} {a j z : Int} (h : a = 437 ∧ 0 ≤ j ∧ j < 330) (k : Z j = z) : evM M X Z a j = z := rd_rX h k
theorem evM_c {M : Me} {X X' Z Z' : Int → Int} (h : ∀ c, 0 ≤ c → c < 330 → X c = X' c) (h' : ∀ c, 0 ≤ c → c < 330 → Z c = Z' c) : evM M X Z = evM M X' Z' := by
  unfold evM
  rw [row1_c h, row1_c h']
theorem evM_id {M : Me} : M = evM M (fun c => M 436 c) (fun c => M 437 c) := by
  unfold evM
  rw [← row1_id, ← row1_id]
theorem evM_X {M : Me} {y v : Int} {X X' Z : Int → Int} (hy : 0 ≤ y ∧ y < 330) (h : ∀ c, 0 ≤ c → c < 330 → X' c = if c = y then v else X c) : up (evM M X Z) 436 y v = evM M X' Z := by
  funext a j
  by_cases h1 : a = 436 ∧ j = y
  · rw [up_eq h1]; exact (rd_evX (by omega) (by rw [h j (by omega) (by omega), if_pos h1.2])).symm
  · rw [up_ne h1]
    by_cases h2 : a = 436 ∧ 0 ≤ j ∧ j < 330
    · exact (rd_evX h2 rfl).trans (rd_evX h2 (by rw [h j h2.2.1 h2.2.2, if_neg (fun q => h1 ⟨h2.1, q⟩)])).symm
    · by_cases h3 : a = 437 ∧ 0 ≤ j ∧ j < 330
      · exact (rd_evY h3 rfl).trans (rd_evY h3 rfl).symm
      · exact (evM_o ⟨h2, h3⟩).trans (evM_o ⟨h2, h3⟩).symm
theorem evM_Y {M : Me} {y v : Int} {X Z Z' : Int → Int} (hy : 0 ≤ y ∧ y < 330) (h : ∀ c, 0 ≤ c → c < 330 → Z' c = if c = y then v else Z c) : up (evM M X Z) 437 y v = evM M X Z' := row1_up hy h
theorem evM_row {M : Me} {X Z : Int → Int} : evM M X Z 430 = M 430 := by funext j; exact evM_o (by omega)
theorem wk8 {a0 a1 a2 a3 a4 a5 a6 a7 v : AV} {tl : List AV} {k : MI} {c1 c2 dd : Nat} {xs : Option (List Int)} {Q : Option AV → Sh → Me → Prop} {pc : Nat} {st : List AV} {S : Sh} {M : Me} {n1 n2 : Nat} (k9 : V k c1 c2 dd xs Q pc (a0 :: a1 :: a2 :: a3 :: a4 :: a5 :: a6 :: a7 :: (9, 0) :: tl) st S M n1 n2) : V k c1 c2 dd xs Q pc (a0 :: a1 :: a2 :: a3 :: a4 :: a5 :: a6 :: a7 :: v :: tl) st S M n1 n2 := V.wkp [a0, a1, a2, a3, a4, a5, a6, a7] tl v k9
theorem wk9 {a0 a1 a2 a3 a4 a5 a6 a7 a8 v : AV} {tl : List AV} {k : MI} {c1 c2 dd : Nat} {xs : Option (List Int)} {Q : Option AV → Sh → Me → Prop} {pc : Nat} {st : List AV} {S : Sh} {M : Me} {n1 n2 : Nat} (k9 : V k c1 c2 dd xs Q pc (a0 :: a1 :: a2 :: a3 :: a4 :: a5 :: a6 :: a7 :: a8 :: (9, 0) :: tl) st S M n1 n2) : V k c1 c2 dd xs Q pc (a0 :: a1 :: a2 :: a3 :: a4 :: a5 :: a6 :: a7 :: a8 :: v :: tl) st S M n1 n2 := V.wkp [a0, a1, a2, a3, a4, a5, a6, a7, a8] tl v k9
def dpF (M : Me) (v : Int) : Int := if 0 ≤ v ∧ v < M 430 14 then M 430 (15 + 7 * v + 0) else 0
def upf (X : Int → Int) (i v : Int) : Int → Int := fun c => if c = i then v else X c
abbrev ES := (Int → Int) × (Int → Int) × Int × Int
/-- one step of what is summed up: the values, the truths, how many of each -/
def stp (dp nm : Int → Int) (k v : Int) (s : ES) : ES :=
  if k ≤ 1 then (upf s.1 s.2.2.1 (if k = 0 then v else nm v), s.2.1, s.2.2.1 + 1, s.2.2.2)
  else if k = 4 then (if s.2.1 (s.2.2.2 + -1) = 0 then upf s.1 (s.2.2.1 + -1 - 1) (s.1 (s.2.2.1 + -1)) else s.1, s.2.1, s.2.2.1 + -1, s.2.2.2 + -1)
  else if k ≤ 5 then (upf s.1 (s.2.2.1 - 1) (if k = 5 then -(s.1 (s.2.2.1 - 1)) else if k = 3 then dp (s.1 (s.2.2.1 - 1)) else trd (s.1 (s.2.2.1 - 1))), s.2.1, s.2.2.1, s.2.2.2)
  else if k < 10 then (upf s.1 (s.2.2.1 + -1 - 1) (two k (s.1 (s.2.2.1 + -1 - 1)) (s.1 (s.2.2.1 + -1))), s.2.1, s.2.2.1 + -1, s.2.2.2)
  else if k < 20 then (s.1, upf s.2.1 s.2.2.2 (askd k (s.1 (s.2.2.1 + -2)) (s.1 (s.2.2.1 + -2 + 1))), s.2.2.1 + -2, s.2.2.2 + 1)
  else if k = 20 then (s.1, upf s.2.1 (s.2.2.2 - 1) (if s.2.1 (s.2.2.2 - 1) = 0 then 1 else 0), s.2.2.1, s.2.2.2)
  else (s.1, upf s.2.1 (s.2.2.2 + -1 - 1) (joi k (s.2.1 (s.2.2.2 + -1 - 1)) (s.2.1 (s.2.2.2 + -1))), s.2.2.1, s.2.2.2 + -1)
/-- a step that keeps within the rows -/
def grd (k v : Int) (s : ES) : Prop := 0 ≤ k ∧ 0 ≤ s.2.2.1 ∧ s.2.2.1 ≤ 330 ∧ 0 ≤ s.2.2.2 ∧ s.2.2.2 ≤ 330 ∧ (∀ c : Int, 0 ≤ c → c < s.2.2.1 → -10000000 < s.1 c ∧ s.1 c < 10000000) ∧ (k ≤ 1 → s.2.2.1 < 330) ∧ (k = 1 → 0 ≤ v ∧ v < 9) ∧ (k = 4 → 2 ≤ s.2.2.1 ∧ 1 ≤ s.2.2.2) ∧ (2 ≤ k → k ≤ 5 → 1 ≤ s.2.2.1) ∧ (6 ≤ k → k < 20 → 2 ≤ s.2.2.1) ∧ (10 ≤ k → k < 20 → s.2.2.2 < 330) ∧ (k = 20 → 1 ≤ s.2.2.2) ∧ (21 ≤ k → 2 ≤ s.2.2.2)
/-- the code from lo, j steps on -/
def rnS (dp nm T : Int → Int) (x4 l0 : Int) (s : ES) : Nat → ES
  | 0 => s
  | j + 1 => stp dp nm (T (x4 + 2 * (l0 + (j : Int)))) (T (x4 + 2 * (l0 + (j : Int)) + 1)) (rnS dp nm T x4 l0 s j)
theorem askd_01 {o v u : Int} : 0 ≤ askd o v u ∧ askd o v u ≤ 1 := by unfold askd bi; (repeat' split) <;> decide
theorem joi_01 {o a b : Int} : 0 ≤ joi o a b ∧ joi o a b ≤ 1 := by unfold joi bi; (repeat' split) <;> decide
theorem c_deepOf {x y z : Int} {M : Me} {v : Int} (h14 : 0 ≤ M 430 14 ∧ M 430 14 ≤ 12) : Con kX11_deepOf 1 0 0 [(1, 429), (2, v)] (Sf x y z) M (Ex (some (2, dpF M v)) (Sf x y z) M) := by
  refine Con.ofV (al := [(1, 429), (2, v), (9, 0)]) 0 (by decide) (Nat.le_of_ble_eq_true rfl) rfl ?_
  refine r_lload_n dX11_deepOf_0 rfl ?_
  refine r_lconst (x := 0) dX11_deepOf_1 rfl (by decide) ?_
  refine r_lcmp dX11_deepOf_2 ?_
  refine r_if_lt (tgt := 30) dX11_deepOf_3 (by decide) (fun h3 => ?_) (fun h3 => ?_)
  · replace h3 := lc_lt.mp h3
    refine r_lconst (x := 0) dX11_deepOf_30 rfl (by decide) ?_
    refine r_lret dX11_deepOf_31 rfl ?_
    first | exact ⟨by unfold dpF; rw [if_pos (by omega)], rfl, rfl⟩ | exact ⟨by unfold dpF; rw [if_neg (by omega)], rfl, rfl⟩
  · replace h3 := lc_ge.mp h3
    refine r_lload_n dX11_deepOf_6 rfl ?_
    refine r_aload_n dX11_deepOf_7 rfl (by decide) ?_
    refine r_getr (x := 430) dX11_deepOf_8 flX11_7 sf429 (by decide) (by decide) rfl rfl ?_
    refine r_bipush dX11_deepOf_11 (by decide) (by decide) ?_
    refine r_iald dX11_deepOf_13 sf430 (by decide) (by omega) (by omega) (by decide) (by first | assumption | ((repeat (first | (apply rd_ne; · omega) | (apply rd_eq; · omega) | (apply rd_out; · omega) | (apply rd_in; · omega))); first | assumption | rfl)) ?_
    refine r_i2l dX11_deepOf_14 ?_
    refine r_lcmp dX11_deepOf_15 ?_
    refine r_if_ge (tgt := 30) dX11_deepOf_16 (by decide) (fun h16 => ?_) (fun h16 => ?_)
    · replace h16 := lc_ge.mp h16
      refine r_lconst (x := 0) dX11_deepOf_30 rfl (by decide) ?_
      refine r_lret dX11_deepOf_31 rfl ?_
      first | exact ⟨by unfold dpF; rw [if_pos (by omega)], rfl, rfl⟩ | exact ⟨by unfold dpF; rw [if_neg (by omega)], rfl, rfl⟩
    · replace h16 := lc_lt.mp h16
      refine r_aload_n dX11_deepOf_19 rfl (by decide) ?_
      refine r_lload_n dX11_deepOf_20 rfl ?_
      refine r_l2i dX11_deepOf_21 (w32_id (by omega)) ?_
      refine r_iconst dX11_deepOf_22 (by decide) ?_
      refine r_cv2 dX11_deepOf_23 clX11_66 sf429 (by decide) (by decide) rfl (by first | decide | omega) (Nat.le_of_ble_eq_true rfl) ((c_get (by omega) (by decide))) ⟨Nat.zero_le _, Nat.zero_le _⟩ (fun _ => ?_)
      refine r_i2l dX11_deepOf_26 ?_
      refine r_goto (tgt := 31) dX11_deepOf_27 (by decide) ?_
      refine r_lret dX11_deepOf_31 rfl ?_
      first | exact ⟨by unfold dpF; rw [if_pos (by omega)], rfl, rfl⟩ | exact ⟨by unfold dpF; rw [if_neg (by omega)], rfl, rfl⟩
theorem l_summedUp {x y z : Int} {M : Me} {t l l0 : Int} {len : Nat} (ht : 0 ≤ t ∧ t < 4) (hl : 0 ≤ l ∧ l < 24) (h0 : M 432 (705 * t + 1 + 4 * l + 1) = l0) (h1 : M 432 (705 * t + 1 + 4 * l + 2) = l0 + len) (h2 : 0 ≤ l0) (h3 : l0 + len ≤ 300) (h14 : 0 ≤ M 430 14 ∧ M 430 14 ≤ 12) (hG : ∀ j : Nat, j < len → grd (M 432 (705 * t + 97 + 2 * (l0 + (j : Int)))) (M 432 (705 * t + 97 + 2 * (l0 + (j : Int)) + 1)) (rnS (dpF M) (fun v => M 435 v) (M 432) (705 * t + 97) l0 (fun c => M 436 c, fun c => M 437 c, 0, 0) j)) : ∀ (m j : Nat), m + j = len → V kX11_summedUp 0 0 2 none (Ex (some (2, (rnS (dpF M) (fun v => M 435 v) (M 432) (705 * t + 97) l0 (fun c => M 436 c, fun c => M 437 c, 0, 0) len).1 0)) (Sf x y z) (evM M (rnS (dpF M) (fun v => M 435 v) (M 432) (705 * t + 97) l0 (fun c => M 436 c, fun c => M 437 c, 0, 0) len).1 (rnS (dpF M) (fun v => M 435 v) (M 432) (705 * t + 97) l0 (fun c => M 436 c, fun c => M 437 c, 0, 0) len).2.1)) 38 [(1, 429), (0, t), (0, l), (0, 705 * t + 1 + 4 * l), (0, 705 * t + 97), (0, (rnS (dpF M) (fun v => M 435 v) (M 432) (705 * t + 97) l0 (fun c => M 436 c, fun c => M 437 c, 0, 0) j).2.2.1), (0, (rnS (dpF M) (fun v => M 435 v) (M 432) (705 * t + 97) l0 (fun c => M 436 c, fun c => M 437 c, 0, 0) j).2.2.2), (0, l0 + (j : Int)), (9, 0), (9, 0)] [] (Sf x y z) (evM M (rnS (dpF M) (fun v => M 435 v) (M 432) (705 * t + 97) l0 (fun c => M 436 c, fun c => M 437 c, 0, 0) j).1 (rnS (dpF M) (fun v => M 435 v) (M 432) (705 * t + 97) l0 (fun c => M 436 c, fun c => M 437 c, 0, 0) j).2.1) 0 0 := by
  intro m
  induction m with
  | zero =>
    intro j hi
    obtain rfl : j = len := by omega
    refine r_iload dX11_summedUp_38 rfl ?_
    refine r_aload_n dX11_summedUp_40 rfl (by decide) ?_
    refine r_getr (x := 432) dX11_summedUp_41 flX11_16 sf429 (by decide) (by decide) rfl rfl ?_
    refine r_iload_n dX11_summedUp_44 rfl ?_
    refine r_iconst dX11_summedUp_45 (by decide) ?_
    refine r_iadd dX11_summedUp_46 (w32_id (by omega)) ?_
    refine r_iald dX11_summedUp_47 sf432 (by decide) (by omega) (by omega) (by decide) ((evM_o (by omega)).trans h1) ?_
    refine r_icmp_ge (tgt := 393) dX11_summedUp_48 (by decide) (fun h48 => ?_) (fun h48 => by exfalso; omega)
    refine r_aload_n dX11_summedUp_393 rfl (by decide) ?_
    refine r_getr (x := 436) dX11_summedUp_394 flX11_35 sf429 (by decide) (by decide) rfl rfl ?_
    refine r_iconst dX11_summedUp_397 (by decide) ?_
    refine r_lald dX11_summedUp_398 sf436 (by decide) (by omega) (by omega) (by decide) (rd_evX (by omega) rfl) ?_
    refine r_lret dX11_summedUp_399 rfl ?_
    exact ⟨rfl, rfl, rfl⟩
  | succ m ih =>
    intro j hj
    have hg := hG j (by omega)
    have ih9 := ih (j + 1) (by omega)
    rw [show rnS (dpF M) (fun v => M 435 v) (M 432) (705 * t + 97) l0 (fun c => M 436 c, fun c => M 437 c, 0, 0) (j + 1) = stp (dpF M) (fun v => M 435 v) (M 432 ((705 * t + 97) + 2 * (l0 + (j : Int)))) (M 432 ((705 * t + 97) + 2 * (l0 + (j : Int)) + 1)) (rnS (dpF M) (fun v => M 435 v) (M 432) (705 * t + 97) l0 (fun c => M 436 c, fun c => M 437 c, 0, 0) j) from rfl] at ih9
    generalize hk : M 432 (705 * t + 97 + 2 * (l0 + (j : Int))) = k at hg ih9
    generalize hv : M 432 (705 * t + 97 + 2 * (l0 + (j : Int)) + 1) = v at hg ih9
    generalize (rnS (dpF M) (fun v => M 435 v) (M 432) (705 * t + 97) l0 (fun c => M 436 c, fun c => M 437 c, 0, 0) j) = s at hg ih9 ⊢
    obtain ⟨X, Y, a, b⟩ := s
    obtain ⟨g0, g1, g2, g3, g4, hB, g5, g6, g7, g8, g9, g10, g11, g12⟩ := hg
    dsimp only at g1 g2 g3 g4 hB g5 g6 g7 g8 g9 g10 g11 g12 ⊢
    refine r_iload dX11_summedUp_38 rfl ?_
    refine r_aload_n dX11_summedUp_40 rfl (by decide) ?_
    refine r_getr (x := 432) dX11_summedUp_41 flX11_16 sf429 (by decide) (by decide) rfl rfl ?_
    refine r_iload_n dX11_summedUp_44 rfl ?_
    refine r_iconst dX11_summedUp_45 (by decide) ?_
    refine r_iadd dX11_summedUp_46 (w32_id (by omega)) ?_
    refine r_iald dX11_summedUp_47 sf432 (by decide) (by omega) (by omega) (by decide) ((evM_o (by omega)).trans h1) ?_
    refine r_icmp_ge (tgt := 393) dX11_summedUp_48 (by decide) (fun h48 => by exfalso; omega) (fun h48 => ?_)
    refine r_aload_n dX11_summedUp_51 rfl (by decide) ?_
    refine r_getr (x := 432) dX11_summedUp_52 flX11_16 sf429 (by decide) (by decide) rfl rfl ?_
    refine r_iload dX11_summedUp_55 rfl ?_
    refine r_iconst dX11_summedUp_57 (by decide) ?_
    refine r_iload dX11_summedUp_58 rfl ?_
    refine r_imul dX11_summedUp_60 (w32_id (by omega)) ?_
    refine r_iadd dX11_summedUp_61 (w32_id (by omega)) ?_
    refine r_iald dX11_summedUp_62 sf432 (by decide) (by omega) (by omega) (by decide) ((evM_o (by omega)).trans hk) ?_
    refine r_istore dX11_summedUp_63 rfl (by decide) st8 ?_
    refine r_aload_n dX11_summedUp_65 rfl (by decide) ?_
    refine r_getr (x := 432) dX11_summedUp_66 flX11_16 sf429 (by decide) (by decide) rfl rfl ?_
    refine r_iload dX11_summedUp_69 rfl ?_
    refine r_iconst dX11_summedUp_71 (by decide) ?_
    refine r_iload dX11_summedUp_72 rfl ?_
    refine r_imul dX11_summedUp_74 (w32_id (by omega)) ?_
    refine r_iadd dX11_summedUp_75 (w32_id (by omega)) ?_
    refine r_iconst dX11_summedUp_76 (by decide) ?_
    refine r_iadd dX11_summedUp_77 (w32_id (by omega)) ?_
    refine r_iald dX11_summedUp_78 sf432 (by decide) (by omega) (by omega) (by decide) (by first | assumption | ((repeat (first | (apply rd_ne; · omega) | (apply rd_eq; · omega) | (apply rd_out; · omega) | (apply rd_in; · omega))); first | assumption | rfl)) ?_
    refine r_istore dX11_summedUp_79 rfl (by decide) st9 ?_
    refine r_iload dX11_summedUp_81 rfl ?_
    refine r_iconst dX11_summedUp_83 (by decide) ?_
    refine r_icmp_gt (tgt := 119) dX11_summedUp_84 (by decide) (fun h84 => ?_) (fun h84 => ?_)
    · refine r_iload dX11_summedUp_119 rfl ?_
      refine r_iconst dX11_summedUp_121 (by decide) ?_
      refine r_icmp_ne (tgt := 160) dX11_summedUp_122 (by decide) (fun h122 => ?_) (fun h122 => ?_)
      · refine r_iload dX11_summedUp_160 rfl ?_
        refine r_iconst dX11_summedUp_162 (by decide) ?_
        refine r_icmp_gt (tgt := 231) dX11_summedUp_163 (by decide) (fun h163 => ?_) (fun h163 => ?_)
        · refine r_iload dX11_summedUp_231 rfl ?_
          refine r_bipush dX11_summedUp_233 (by decide) (by decide) ?_
          refine r_icmp_ge (tgt := 274) dX11_summedUp_235 (by decide) (fun h235 => ?_) (fun h235 => ?_)
          · refine r_iload dX11_summedUp_274 rfl ?_
            refine r_bipush dX11_summedUp_276 (by decide) (by decide) ?_
            refine r_icmp_ge (tgt := 318) dX11_summedUp_278 (by decide) (fun h278 => ?_) (fun h278 => ?_)
            · refine r_iload dX11_summedUp_318 rfl ?_
              refine r_bipush dX11_summedUp_320 (by decide) (by decide) ?_
              refine r_icmp_ne (tgt := 354) dX11_summedUp_322 (by decide) (fun h322 => ?_) (fun h322 => ?_)
              · refine r_iinc dX11_summedUp_354 rfl rfl (by decide) (w32_id (by omega)) st6 ?_
                refine r_aload_n dX11_summedUp_357 rfl (by decide) ?_
                refine r_getr (x := 437) dX11_summedUp_358 flX11_39 sf429 (by decide) (by decide) rfl rfl ?_
                refine r_iload dX11_summedUp_361 rfl ?_
                refine r_iconst dX11_summedUp_363 (by decide) ?_
                refine r_isub dX11_summedUp_364 (w32_id (by omega)) ?_
                refine r_iload dX11_summedUp_365 rfl ?_
                refine r_aload_n dX11_summedUp_367 rfl (by decide) ?_
                refine r_getr (x := 437) dX11_summedUp_368 flX11_39 sf429 (by decide) (by decide) rfl rfl ?_
                refine r_iload dX11_summedUp_371 rfl ?_
                refine r_iconst dX11_summedUp_373 (by decide) ?_
                refine r_isub dX11_summedUp_374 (w32_id (by omega)) ?_
                refine r_zald dX11_summedUp_375 sf437 (by decide) (by omega) (by omega) (by decide) (rd_evY (by omega) rfl) ?_
                refine r_aload_n dX11_summedUp_376 rfl (by decide) ?_
                refine r_getr (x := 437) dX11_summedUp_377 flX11_39 sf429 (by decide) (by decide) rfl rfl ?_
                refine r_iload dX11_summedUp_380 rfl ?_
                refine r_zald dX11_summedUp_382 sf437 (by decide) (by omega) (by omega) (by decide) (rd_evY (by omega) rfl) ?_
                refine r_cs3 dX11_summedUp_383 clX11_285 (by first | decide | omega) (Nat.le_of_ble_eq_true rfl) (c_joined) ⟨Nat.zero_le _, Nat.zero_le _⟩ (fun _ => ?_)
                refine r_zast dX11_summedUp_386 sf437 (by decide) (by omega) (by omega) (by decide) (joi_01) rfl ?_
                refine r_iinc dX11_summedUp_387 rfl rfl (by decide) (w32_id (by omega)) st7 ?_
                refine r_goto (tgt := 38) dX11_summedUp_390 (by decide) ?_
                first
                | (rw [show stp (dpF M) (fun v => M 435 v) k v (X, Y, a, b) = (upf X a v, Y, a + 1, b) by (unfold stp; rw [if_pos (by omega), if_pos (by omega)])] at ih9; exact wk8 (wk9 (V.cm rfl (evM_X (by omega) (fun c _ _ => rfl)) (V.al (by rw [show l0 + (j : Int) + 1 = l0 + ((j + 1 : Nat) : Int) by omega]) ih9))))
                | (rw [show stp (dpF M) (fun v => M 435 v) k v (X, Y, a, b) = (upf X a (M 435 v), Y, a + 1, b) by (unfold stp; rw [if_pos (by omega), if_neg (by omega)])] at ih9; exact wk8 (wk9 (V.cm rfl (evM_X (by omega) (fun c _ _ => rfl)) (V.al (by rw [show l0 + (j : Int) + 1 = l0 + ((j + 1 : Nat) : Int) by omega]) ih9))))
                | (rw [show stp (dpF M) (fun v => M 435 v) k v (X, Y, a, b) = (X, Y, a + -1, b + -1) by (unfold stp; rw [if_neg (by omega), if_pos (by omega), if_neg (by assumption)])] at ih9; exact wk8 (wk9 (V.cm rfl rfl (V.al (by rw [show l0 + (j : Int) + 1 = l0 + ((j + 1 : Nat) : Int) by omega]) ih9))))
                | (rw [show stp (dpF M) (fun v => M 435 v) k v (X, Y, a, b) = (upf X (a + -1 - 1) (X (a + -1)), Y, a + -1, b + -1) by (unfold stp; rw [if_neg (by omega), if_pos (by omega), if_pos (by assumption)])] at ih9; exact wk8 (wk9 (V.cm rfl (evM_X (by omega) (fun c _ _ => rfl)) (V.al (by rw [show l0 + (j : Int) + 1 = l0 + ((j + 1 : Nat) : Int) by omega]) ih9))))
                | (rw [show stp (dpF M) (fun v => M 435 v) k v (X, Y, a, b) = (upf X (a - 1) (-(X (a - 1))), Y, a, b) by (unfold stp; rw [if_neg (by omega), if_neg (by omega), if_pos (by omega), if_pos (by omega)])] at ih9; exact wk8 (wk9 (V.cm rfl (evM_X (by omega) (fun c _ _ => rfl)) (V.al (by rw [show l0 + (j : Int) + 1 = l0 + ((j + 1 : Nat) : Int) by omega]) ih9))))
                | (rw [show stp (dpF M) (fun v => M 435 v) k v (X, Y, a, b) = (upf X (a - 1) (dpF M (X (a - 1))), Y, a, b) by (unfold stp; rw [if_neg (by omega), if_neg (by omega), if_pos (by omega), if_neg (by omega), if_pos (by omega)])] at ih9; exact wk8 (wk9 (V.cm rfl (evM_X (by omega) (fun c _ _ => rfl)) (V.al (by rw [show l0 + (j : Int) + 1 = l0 + ((j + 1 : Nat) : Int) by omega]) ih9))))
                | (rw [show stp (dpF M) (fun v => M 435 v) k v (X, Y, a, b) = (upf X (a - 1) (trd (X (a - 1))), Y, a, b) by (unfold stp; rw [if_neg (by omega), if_neg (by omega), if_pos (by omega), if_neg (by omega), if_neg (by omega)])] at ih9; exact wk8 (wk9 (V.cm rfl (evM_X (by omega) (fun c _ _ => rfl)) (V.al (by rw [show l0 + (j : Int) + 1 = l0 + ((j + 1 : Nat) : Int) by omega]) ih9))))
                | (rw [show stp (dpF M) (fun v => M 435 v) k v (X, Y, a, b) = (upf X (a + -1 - 1) (two k (X (a + -1 - 1)) (X (a + -1))), Y, a + -1, b) by (unfold stp; rw [if_neg (by omega), if_neg (by omega), if_neg (by omega), if_pos (by omega)])] at ih9; exact wk8 (wk9 (V.cm rfl (evM_X (by omega) (fun c _ _ => rfl)) (V.al (by rw [show l0 + (j : Int) + 1 = l0 + ((j + 1 : Nat) : Int) by omega]) ih9))))
                | (rw [show stp (dpF M) (fun v => M 435 v) k v (X, Y, a, b) = (X, upf Y b (askd k (X (a + -2)) (X (a + -2 + 1))), a + -2, b + 1) by (unfold stp; rw [if_neg (by omega), if_neg (by omega), if_neg (by omega), if_neg (by omega), if_pos (by omega)])] at ih9; exact wk8 (wk9 (V.cm rfl (evM_Y (by omega) (fun c _ _ => rfl)) (V.al (by rw [show l0 + (j : Int) + 1 = l0 + ((j + 1 : Nat) : Int) by omega]) ih9))))
                | (rw [show stp (dpF M) (fun v => M 435 v) k v (X, Y, a, b) = (X, upf Y (b - 1) 1, a, b) by (unfold stp; rw [if_neg (by omega), if_neg (by omega), if_neg (by omega), if_neg (by omega), if_neg (by omega), if_pos (by omega), if_pos (by assumption)])] at ih9; exact wk8 (wk9 (V.cm rfl (evM_Y (by omega) (fun c _ _ => rfl)) (V.al (by rw [show l0 + (j : Int) + 1 = l0 + ((j + 1 : Nat) : Int) by omega]) ih9))))
                | (rw [show stp (dpF M) (fun v => M 435 v) k v (X, Y, a, b) = (X, upf Y (b - 1) 0, a, b) by (unfold stp; rw [if_neg (by omega), if_neg (by omega), if_neg (by omega), if_neg (by omega), if_neg (by omega), if_pos (by omega), if_neg (by assumption)])] at ih9; exact wk8 (wk9 (V.cm rfl (evM_Y (by omega) (fun c _ _ => rfl)) (V.al (by rw [show l0 + (j : Int) + 1 = l0 + ((j + 1 : Nat) : Int) by omega]) ih9))))
                | (rw [show stp (dpF M) (fun v => M 435 v) k v (X, Y, a, b) = (X, upf Y (b + -1 - 1) (joi k (Y (b + -1 - 1)) (Y (b + -1))), a, b + -1) by (unfold stp; rw [if_neg (by omega), if_neg (by omega), if_neg (by omega), if_neg (by omega), if_neg (by omega), if_neg (by omega)])] at ih9; exact wk8 (wk9 (V.cm rfl (evM_Y (by omega) (fun c _ _ => rfl)) (V.al (by rw [show l0 + (j : Int) + 1 = l0 + ((j + 1 : Nat) : Int) by omega]) ih9))))
              · refine r_aload_n dX11_summedUp_325 rfl (by decide) ?_
                refine r_getr (x := 437) dX11_summedUp_326 flX11_39 sf429 (by decide) (by decide) rfl rfl ?_
                refine r_iload dX11_summedUp_329 rfl ?_
                refine r_iconst dX11_summedUp_331 (by decide) ?_
                refine r_isub dX11_summedUp_332 (w32_id (by omega)) ?_
                refine r_aload_n dX11_summedUp_333 rfl (by decide) ?_
                refine r_getr (x := 437) dX11_summedUp_334 flX11_39 sf429 (by decide) (by decide) rfl rfl ?_
                refine r_iload dX11_summedUp_337 rfl ?_
                refine r_iconst dX11_summedUp_339 (by decide) ?_
                refine r_isub dX11_summedUp_340 (w32_id (by omega)) ?_
                refine r_zald dX11_summedUp_341 sf437 (by decide) (by omega) (by omega) (by decide) (rd_evY (by omega) rfl) ?_
                refine r_if_ne (tgt := 349) dX11_summedUp_342 (by decide) (fun h342 => ?_) (fun h342 => ?_)
                · try have h342 := bi_1.mp h342
                  refine r_iconst dX11_summedUp_349 (by decide) ?_
                  refine r_zast dX11_summedUp_350 sf437 (by decide) (by omega) (by omega) (by decide) (by omega) rfl ?_
                  refine r_goto (tgt := 387) dX11_summedUp_351 (by decide) ?_
                  refine r_iinc dX11_summedUp_387 rfl rfl (by decide) (w32_id (by omega)) st7 ?_
                  refine r_goto (tgt := 38) dX11_summedUp_390 (by decide) ?_
                  first
                  | (rw [show stp (dpF M) (fun v => M 435 v) k v (X, Y, a, b) = (upf X a v, Y, a + 1, b) by (unfold stp; rw [if_pos (by omega), if_pos (by omega)])] at ih9; exact wk8 (wk9 (V.cm rfl (evM_X (by omega) (fun c _ _ => rfl)) (V.al (by rw [show l0 + (j : Int) + 1 = l0 + ((j + 1 : Nat) : Int) by omega]) ih9))))
                  | (rw [show stp (dpF M) (fun v => M 435 v) k v (X, Y, a, b) = (upf X a (M 435 v), Y, a + 1, b) by (unfold stp; rw [if_pos (by omega), if_neg (by omega)])] at ih9; exact wk8 (wk9 (V.cm rfl (evM_X (by omega) (fun c _ _ => rfl)) (V.al (by rw [show l0 + (j : Int) + 1 = l0 + ((j + 1 : Nat) : Int) by omega]) ih9))))
                  | (rw [show stp (dpF M) (fun v => M 435 v) k v (X, Y, a, b) = (X, Y, a + -1, b + -1) by (unfold stp; rw [if_neg (by omega), if_pos (by omega), if_neg (by assumption)])] at ih9; exact wk8 (wk9 (V.cm rfl rfl (V.al (by rw [show l0 + (j : Int) + 1 = l0 + ((j + 1 : Nat) : Int) by omega]) ih9))))
                  | (rw [show stp (dpF M) (fun v => M 435 v) k v (X, Y, a, b) = (upf X (a + -1 - 1) (X (a + -1)), Y, a + -1, b + -1) by (unfold stp; rw [if_neg (by omega), if_pos (by omega), if_pos (by assumption)])] at ih9; exact wk8 (wk9 (V.cm rfl (evM_X (by omega) (fun c _ _ => rfl)) (V.al (by rw [show l0 + (j : Int) + 1 = l0 + ((j + 1 : Nat) : Int) by omega]) ih9))))
                  | (rw [show stp (dpF M) (fun v => M 435 v) k v (X, Y, a, b) = (upf X (a - 1) (-(X (a - 1))), Y, a, b) by (unfold stp; rw [if_neg (by omega), if_neg (by omega), if_pos (by omega), if_pos (by omega)])] at ih9; exact wk8 (wk9 (V.cm rfl (evM_X (by omega) (fun c _ _ => rfl)) (V.al (by rw [show l0 + (j : Int) + 1 = l0 + ((j + 1 : Nat) : Int) by omega]) ih9))))
                  | (rw [show stp (dpF M) (fun v => M 435 v) k v (X, Y, a, b) = (upf X (a - 1) (dpF M (X (a - 1))), Y, a, b) by (unfold stp; rw [if_neg (by omega), if_neg (by omega), if_pos (by omega), if_neg (by omega), if_pos (by omega)])] at ih9; exact wk8 (wk9 (V.cm rfl (evM_X (by omega) (fun c _ _ => rfl)) (V.al (by rw [show l0 + (j : Int) + 1 = l0 + ((j + 1 : Nat) : Int) by omega]) ih9))))
                  | (rw [show stp (dpF M) (fun v => M 435 v) k v (X, Y, a, b) = (upf X (a - 1) (trd (X (a - 1))), Y, a, b) by (unfold stp; rw [if_neg (by omega), if_neg (by omega), if_pos (by omega), if_neg (by omega), if_neg (by omega)])] at ih9; exact wk8 (wk9 (V.cm rfl (evM_X (by omega) (fun c _ _ => rfl)) (V.al (by rw [show l0 + (j : Int) + 1 = l0 + ((j + 1 : Nat) : Int) by omega]) ih9))))
                  | (rw [show stp (dpF M) (fun v => M 435 v) k v (X, Y, a, b) = (upf X (a + -1 - 1) (two k (X (a + -1 - 1)) (X (a + -1))), Y, a + -1, b) by (unfold stp; rw [if_neg (by omega), if_neg (by omega), if_neg (by omega), if_pos (by omega)])] at ih9; exact wk8 (wk9 (V.cm rfl (evM_X (by omega) (fun c _ _ => rfl)) (V.al (by rw [show l0 + (j : Int) + 1 = l0 + ((j + 1 : Nat) : Int) by omega]) ih9))))
                  | (rw [show stp (dpF M) (fun v => M 435 v) k v (X, Y, a, b) = (X, upf Y b (askd k (X (a + -2)) (X (a + -2 + 1))), a + -2, b + 1) by (unfold stp; rw [if_neg (by omega), if_neg (by omega), if_neg (by omega), if_neg (by omega), if_pos (by omega)])] at ih9; exact wk8 (wk9 (V.cm rfl (evM_Y (by omega) (fun c _ _ => rfl)) (V.al (by rw [show l0 + (j : Int) + 1 = l0 + ((j + 1 : Nat) : Int) by omega]) ih9))))
                  | (rw [show stp (dpF M) (fun v => M 435 v) k v (X, Y, a, b) = (X, upf Y (b - 1) 1, a, b) by (unfold stp; rw [if_neg (by omega), if_neg (by omega), if_neg (by omega), if_neg (by omega), if_neg (by omega), if_pos (by omega), if_pos (by assumption)])] at ih9; exact wk8 (wk9 (V.cm rfl (evM_Y (by omega) (fun c _ _ => rfl)) (V.al (by rw [show l0 + (j : Int) + 1 = l0 + ((j + 1 : Nat) : Int) by omega]) ih9))))
                  | (rw [show stp (dpF M) (fun v => M 435 v) k v (X, Y, a, b) = (X, upf Y (b - 1) 0, a, b) by (unfold stp; rw [if_neg (by omega), if_neg (by omega), if_neg (by omega), if_neg (by omega), if_neg (by omega), if_pos (by omega), if_neg (by assumption)])] at ih9; exact wk8 (wk9 (V.cm rfl (evM_Y (by omega) (fun c _ _ => rfl)) (V.al (by rw [show l0 + (j : Int) + 1 = l0 + ((j + 1 : Nat) : Int) by omega]) ih9))))
                  | (rw [show stp (dpF M) (fun v => M 435 v) k v (X, Y, a, b) = (X, upf Y (b + -1 - 1) (joi k (Y (b + -1 - 1)) (Y (b + -1))), a, b + -1) by (unfold stp; rw [if_neg (by omega), if_neg (by omega), if_neg (by omega), if_neg (by omega), if_neg (by omega), if_neg (by omega)])] at ih9; exact wk8 (wk9 (V.cm rfl (evM_Y (by omega) (fun c _ _ => rfl)) (V.al (by rw [show l0 + (j : Int) + 1 = l0 + ((j + 1 : Nat) : Int) by omega]) ih9))))
                · try have h342 := bi_0.mp h342
                  refine r_iconst dX11_summedUp_345 (by decide) ?_
                  refine r_goto (tgt := 350) dX11_summedUp_346 (by decide) ?_
                  refine r_zast dX11_summedUp_350 sf437 (by decide) (by omega) (by omega) (by decide) (by omega) rfl ?_
                  refine r_goto (tgt := 387) dX11_summedUp_351 (by decide) ?_
                  refine r_iinc dX11_summedUp_387 rfl rfl (by decide) (w32_id (by omega)) st7 ?_
                  refine r_goto (tgt := 38) dX11_summedUp_390 (by decide) ?_
                  first
                  | (rw [show stp (dpF M) (fun v => M 435 v) k v (X, Y, a, b) = (upf X a v, Y, a + 1, b) by (unfold stp; rw [if_pos (by omega), if_pos (by omega)])] at ih9; exact wk8 (wk9 (V.cm rfl (evM_X (by omega) (fun c _ _ => rfl)) (V.al (by rw [show l0 + (j : Int) + 1 = l0 + ((j + 1 : Nat) : Int) by omega]) ih9))))
                  | (rw [show stp (dpF M) (fun v => M 435 v) k v (X, Y, a, b) = (upf X a (M 435 v), Y, a + 1, b) by (unfold stp; rw [if_pos (by omega), if_neg (by omega)])] at ih9; exact wk8 (wk9 (V.cm rfl (evM_X (by omega) (fun c _ _ => rfl)) (V.al (by rw [show l0 + (j : Int) + 1 = l0 + ((j + 1 : Nat) : Int) by omega]) ih9))))
                  | (rw [show stp (dpF M) (fun v => M 435 v) k v (X, Y, a, b) = (X, Y, a + -1, b + -1) by (unfold stp; rw [if_neg (by omega), if_pos (by omega), if_neg (by assumption)])] at ih9; exact wk8 (wk9 (V.cm rfl rfl (V.al (by rw [show l0 + (j : Int) + 1 = l0 + ((j + 1 : Nat) : Int) by omega]) ih9))))
                  | (rw [show stp (dpF M) (fun v => M 435 v) k v (X, Y, a, b) = (upf X (a + -1 - 1) (X (a + -1)), Y, a + -1, b + -1) by (unfold stp; rw [if_neg (by omega), if_pos (by omega), if_pos (by assumption)])] at ih9; exact wk8 (wk9 (V.cm rfl (evM_X (by omega) (fun c _ _ => rfl)) (V.al (by rw [show l0 + (j : Int) + 1 = l0 + ((j + 1 : Nat) : Int) by omega]) ih9))))
                  | (rw [show stp (dpF M) (fun v => M 435 v) k v (X, Y, a, b) = (upf X (a - 1) (-(X (a - 1))), Y, a, b) by (unfold stp; rw [if_neg (by omega), if_neg (by omega), if_pos (by omega), if_pos (by omega)])] at ih9; exact wk8 (wk9 (V.cm rfl (evM_X (by omega) (fun c _ _ => rfl)) (V.al (by rw [show l0 + (j : Int) + 1 = l0 + ((j + 1 : Nat) : Int) by omega]) ih9))))
                  | (rw [show stp (dpF M) (fun v => M 435 v) k v (X, Y, a, b) = (upf X (a - 1) (dpF M (X (a - 1))), Y, a, b) by (unfold stp; rw [if_neg (by omega), if_neg (by omega), if_pos (by omega), if_neg (by omega), if_pos (by omega)])] at ih9; exact wk8 (wk9 (V.cm rfl (evM_X (by omega) (fun c _ _ => rfl)) (V.al (by rw [show l0 + (j : Int) + 1 = l0 + ((j + 1 : Nat) : Int) by omega]) ih9))))
                  | (rw [show stp (dpF M) (fun v => M 435 v) k v (X, Y, a, b) = (upf X (a - 1) (trd (X (a - 1))), Y, a, b) by (unfold stp; rw [if_neg (by omega), if_neg (by omega), if_pos (by omega), if_neg (by omega), if_neg (by omega)])] at ih9; exact wk8 (wk9 (V.cm rfl (evM_X (by omega) (fun c _ _ => rfl)) (V.al (by rw [show l0 + (j : Int) + 1 = l0 + ((j + 1 : Nat) : Int) by omega]) ih9))))
                  | (rw [show stp (dpF M) (fun v => M 435 v) k v (X, Y, a, b) = (upf X (a + -1 - 1) (two k (X (a + -1 - 1)) (X (a + -1))), Y, a + -1, b) by (unfold stp; rw [if_neg (by omega), if_neg (by omega), if_neg (by omega), if_pos (by omega)])] at ih9; exact wk8 (wk9 (V.cm rfl (evM_X (by omega) (fun c _ _ => rfl)) (V.al (by rw [show l0 + (j : Int) + 1 = l0 + ((j + 1 : Nat) : Int) by omega]) ih9))))
                  | (rw [show stp (dpF M) (fun v => M 435 v) k v (X, Y, a, b) = (X, upf Y b (askd k (X (a + -2)) (X (a + -2 + 1))), a + -2, b + 1) by (unfold stp; rw [if_neg (by omega), if_neg (by omega), if_neg (by omega), if_neg (by omega), if_pos (by omega)])] at ih9; exact wk8 (wk9 (V.cm rfl (evM_Y (by omega) (fun c _ _ => rfl)) (V.al (by rw [show l0 + (j : Int) + 1 = l0 + ((j + 1 : Nat) : Int) by omega]) ih9))))
                  | (rw [show stp (dpF M) (fun v => M 435 v) k v (X, Y, a, b) = (X, upf Y (b - 1) 1, a, b) by (unfold stp; rw [if_neg (by omega), if_neg (by omega), if_neg (by omega), if_neg (by omega), if_neg (by omega), if_pos (by omega), if_pos (by assumption)])] at ih9; exact wk8 (wk9 (V.cm rfl (evM_Y (by omega) (fun c _ _ => rfl)) (V.al (by rw [show l0 + (j : Int) + 1 = l0 + ((j + 1 : Nat) : Int) by omega]) ih9))))
                  | (rw [show stp (dpF M) (fun v => M 435 v) k v (X, Y, a, b) = (X, upf Y (b - 1) 0, a, b) by (unfold stp; rw [if_neg (by omega), if_neg (by omega), if_neg (by omega), if_neg (by omega), if_neg (by omega), if_pos (by omega), if_neg (by assumption)])] at ih9; exact wk8 (wk9 (V.cm rfl (evM_Y (by omega) (fun c _ _ => rfl)) (V.al (by rw [show l0 + (j : Int) + 1 = l0 + ((j + 1 : Nat) : Int) by omega]) ih9))))
                  | (rw [show stp (dpF M) (fun v => M 435 v) k v (X, Y, a, b) = (X, upf Y (b + -1 - 1) (joi k (Y (b + -1 - 1)) (Y (b + -1))), a, b + -1) by (unfold stp; rw [if_neg (by omega), if_neg (by omega), if_neg (by omega), if_neg (by omega), if_neg (by omega), if_neg (by omega)])] at ih9; exact wk8 (wk9 (V.cm rfl (evM_Y (by omega) (fun c _ _ => rfl)) (V.al (by rw [show l0 + (j : Int) + 1 = l0 + ((j + 1 : Nat) : Int) by omega]) ih9))))
            · refine r_iinc dX11_summedUp_281 rfl rfl (by decide) (w32_id (by omega)) st5 ?_
              refine r_aload_n dX11_summedUp_284 rfl (by decide) ?_
              refine r_getr (x := 437) dX11_summedUp_285 flX11_39 sf429 (by decide) (by decide) rfl rfl ?_
              refine r_iload dX11_summedUp_288 rfl ?_
              refine r_iload dX11_summedUp_290 rfl ?_
              refine r_aload_n dX11_summedUp_292 rfl (by decide) ?_
              refine r_getr (x := 436) dX11_summedUp_293 flX11_35 sf429 (by decide) (by decide) rfl rfl ?_
              refine r_iload dX11_summedUp_296 rfl ?_
              refine r_lald dX11_summedUp_298 sf436 (by decide) (by omega) (by omega) (by decide) (rd_evX (by omega) rfl) ?_
              refine r_aload_n dX11_summedUp_299 rfl (by decide) ?_
              refine r_getr (x := 436) dX11_summedUp_300 flX11_35 sf429 (by decide) (by decide) rfl rfl ?_
              refine r_iload dX11_summedUp_303 rfl ?_
              refine r_iconst dX11_summedUp_305 (by decide) ?_
              refine r_iadd dX11_summedUp_306 (w32_id (by omega)) ?_
              refine r_lald dX11_summedUp_307 sf436 (by decide) (by omega) (by omega) (by decide) (rd_evX (by omega) rfl) ?_
              refine r_cs3 dX11_summedUp_308 clX11_281 (by first | decide | omega) (Nat.le_of_ble_eq_true rfl) (c_isAsked) ⟨Nat.zero_le _, Nat.zero_le _⟩ (fun _ => ?_)
              refine r_zast dX11_summedUp_311 sf437 (by decide) (by omega) (by omega) (by decide) (askd_01) rfl ?_
              refine r_iinc dX11_summedUp_312 rfl rfl (by decide) (w32_id (by omega)) st6 ?_
              refine r_goto (tgt := 387) dX11_summedUp_315 (by decide) ?_
              refine r_iinc dX11_summedUp_387 rfl rfl (by decide) (w32_id (by omega)) st7 ?_
              refine r_goto (tgt := 38) dX11_summedUp_390 (by decide) ?_
              first
              | (rw [show stp (dpF M) (fun v => M 435 v) k v (X, Y, a, b) = (upf X a v, Y, a + 1, b) by (unfold stp; rw [if_pos (by omega), if_pos (by omega)])] at ih9; exact wk8 (wk9 (V.cm rfl (evM_X (by omega) (fun c _ _ => rfl)) (V.al (by rw [show l0 + (j : Int) + 1 = l0 + ((j + 1 : Nat) : Int) by omega]) ih9))))
              | (rw [show stp (dpF M) (fun v => M 435 v) k v (X, Y, a, b) = (upf X a (M 435 v), Y, a + 1, b) by (unfold stp; rw [if_pos (by omega), if_neg (by omega)])] at ih9; exact wk8 (wk9 (V.cm rfl (evM_X (by omega) (fun c _ _ => rfl)) (V.al (by rw [show l0 + (j : Int) + 1 = l0 + ((j + 1 : Nat) : Int) by omega]) ih9))))
              | (rw [show stp (dpF M) (fun v => M 435 v) k v (X, Y, a, b) = (X, Y, a + -1, b + -1) by (unfold stp; rw [if_neg (by omega), if_pos (by omega), if_neg (by assumption)])] at ih9; exact wk8 (wk9 (V.cm rfl rfl (V.al (by rw [show l0 + (j : Int) + 1 = l0 + ((j + 1 : Nat) : Int) by omega]) ih9))))
              | (rw [show stp (dpF M) (fun v => M 435 v) k v (X, Y, a, b) = (upf X (a + -1 - 1) (X (a + -1)), Y, a + -1, b + -1) by (unfold stp; rw [if_neg (by omega), if_pos (by omega), if_pos (by assumption)])] at ih9; exact wk8 (wk9 (V.cm rfl (evM_X (by omega) (fun c _ _ => rfl)) (V.al (by rw [show l0 + (j : Int) + 1 = l0 + ((j + 1 : Nat) : Int) by omega]) ih9))))
              | (rw [show stp (dpF M) (fun v => M 435 v) k v (X, Y, a, b) = (upf X (a - 1) (-(X (a - 1))), Y, a, b) by (unfold stp; rw [if_neg (by omega), if_neg (by omega), if_pos (by omega), if_pos (by omega)])] at ih9; exact wk8 (wk9 (V.cm rfl (evM_X (by omega) (fun c _ _ => rfl)) (V.al (by rw [show l0 + (j : Int) + 1 = l0 + ((j + 1 : Nat) : Int) by omega]) ih9))))
              | (rw [show stp (dpF M) (fun v => M 435 v) k v (X, Y, a, b) = (upf X (a - 1) (dpF M (X (a - 1))), Y, a, b) by (unfold stp; rw [if_neg (by omega), if_neg (by omega), if_pos (by omega), if_neg (by omega), if_pos (by omega)])] at ih9; exact wk8 (wk9 (V.cm rfl (evM_X (by omega) (fun c _ _ => rfl)) (V.al (by rw [show l0 + (j : Int) + 1 = l0 + ((j + 1 : Nat) : Int) by omega]) ih9))))
              | (rw [show stp (dpF M) (fun v => M 435 v) k v (X, Y, a, b) = (upf X (a - 1) (trd (X (a - 1))), Y, a, b) by (unfold stp; rw [if_neg (by omega), if_neg (by omega), if_pos (by omega), if_neg (by omega), if_neg (by omega)])] at ih9; exact wk8 (wk9 (V.cm rfl (evM_X (by omega) (fun c _ _ => rfl)) (V.al (by rw [show l0 + (j : Int) + 1 = l0 + ((j + 1 : Nat) : Int) by omega]) ih9))))
              | (rw [show stp (dpF M) (fun v => M 435 v) k v (X, Y, a, b) = (upf X (a + -1 - 1) (two k (X (a + -1 - 1)) (X (a + -1))), Y, a + -1, b) by (unfold stp; rw [if_neg (by omega), if_neg (by omega), if_neg (by omega), if_pos (by omega)])] at ih9; exact wk8 (wk9 (V.cm rfl (evM_X (by omega) (fun c _ _ => rfl)) (V.al (by rw [show l0 + (j : Int) + 1 = l0 + ((j + 1 : Nat) : Int) by omega]) ih9))))
              | (rw [show stp (dpF M) (fun v => M 435 v) k v (X, Y, a, b) = (X, upf Y b (askd k (X (a + -2)) (X (a + -2 + 1))), a + -2, b + 1) by (unfold stp; rw [if_neg (by omega), if_neg (by omega), if_neg (by omega), if_neg (by omega), if_pos (by omega)])] at ih9; exact wk8 (wk9 (V.cm rfl (evM_Y (by omega) (fun c _ _ => rfl)) (V.al (by rw [show l0 + (j : Int) + 1 = l0 + ((j + 1 : Nat) : Int) by omega]) ih9))))
              | (rw [show stp (dpF M) (fun v => M 435 v) k v (X, Y, a, b) = (X, upf Y (b - 1) 1, a, b) by (unfold stp; rw [if_neg (by omega), if_neg (by omega), if_neg (by omega), if_neg (by omega), if_neg (by omega), if_pos (by omega), if_pos (by assumption)])] at ih9; exact wk8 (wk9 (V.cm rfl (evM_Y (by omega) (fun c _ _ => rfl)) (V.al (by rw [show l0 + (j : Int) + 1 = l0 + ((j + 1 : Nat) : Int) by omega]) ih9))))
              | (rw [show stp (dpF M) (fun v => M 435 v) k v (X, Y, a, b) = (X, upf Y (b - 1) 0, a, b) by (unfold stp; rw [if_neg (by omega), if_neg (by omega), if_neg (by omega), if_neg (by omega), if_neg (by omega), if_pos (by omega), if_neg (by assumption)])] at ih9; exact wk8 (wk9 (V.cm rfl (evM_Y (by omega) (fun c _ _ => rfl)) (V.al (by rw [show l0 + (j : Int) + 1 = l0 + ((j + 1 : Nat) : Int) by omega]) ih9))))
              | (rw [show stp (dpF M) (fun v => M 435 v) k v (X, Y, a, b) = (X, upf Y (b + -1 - 1) (joi k (Y (b + -1 - 1)) (Y (b + -1))), a, b + -1) by (unfold stp; rw [if_neg (by omega), if_neg (by omega), if_neg (by omega), if_neg (by omega), if_neg (by omega), if_neg (by omega)])] at ih9; exact wk8 (wk9 (V.cm rfl (evM_Y (by omega) (fun c _ _ => rfl)) (V.al (by rw [show l0 + (j : Int) + 1 = l0 + ((j + 1 : Nat) : Int) by omega]) ih9))))
          · refine r_iinc dX11_summedUp_238 rfl rfl (by decide) (w32_id (by omega)) st5 ?_
            refine r_aload_n dX11_summedUp_241 rfl (by decide) ?_
            refine r_getr (x := 436) dX11_summedUp_242 flX11_35 sf429 (by decide) (by decide) rfl rfl ?_
            refine r_iload dX11_summedUp_245 rfl ?_
            refine r_iconst dX11_summedUp_247 (by decide) ?_
            refine r_isub dX11_summedUp_248 (w32_id (by omega)) ?_
            refine r_iload dX11_summedUp_249 rfl ?_
            refine r_aload_n dX11_summedUp_251 rfl (by decide) ?_
            refine r_getr (x := 436) dX11_summedUp_252 flX11_35 sf429 (by decide) (by decide) rfl rfl ?_
            refine r_iload dX11_summedUp_255 rfl ?_
            refine r_iconst dX11_summedUp_257 (by decide) ?_
            refine r_isub dX11_summedUp_258 (w32_id (by omega)) ?_
            refine r_lald dX11_summedUp_259 sf436 (by decide) (by omega) (by omega) (by decide) (rd_evX (by omega) rfl) ?_
            refine r_aload_n dX11_summedUp_260 rfl (by decide) ?_
            refine r_getr (x := 436) dX11_summedUp_261 flX11_35 sf429 (by decide) (by decide) rfl rfl ?_
            refine r_iload dX11_summedUp_264 rfl ?_
            refine r_lald dX11_summedUp_266 sf436 (by decide) (by omega) (by omega) (by decide) (rd_evX (by omega) rfl) ?_
            refine r_cs3 dX11_summedUp_267 clX11_277 (by first | decide | omega) (Nat.le_of_ble_eq_true rfl) ((c_two (hB _ (by omega) (by omega)) (hB _ (by omega) (by omega)))) ⟨Nat.zero_le _, Nat.zero_le _⟩ (fun _ => ?_)
            refine r_last dX11_summedUp_270 sf436 (by decide) (by omega) (by omega) (by decide) rfl ?_
            refine r_goto (tgt := 387) dX11_summedUp_271 (by decide) ?_
            refine r_iinc dX11_summedUp_387 rfl rfl (by decide) (w32_id (by omega)) st7 ?_
            refine r_goto (tgt := 38) dX11_summedUp_390 (by decide) ?_
            first
            | (rw [show stp (dpF M) (fun v => M 435 v) k v (X, Y, a, b) = (upf X a v, Y, a + 1, b) by (unfold stp; rw [if_pos (by omega), if_pos (by omega)])] at ih9; exact wk8 (wk9 (V.cm rfl (evM_X (by omega) (fun c _ _ => rfl)) (V.al (by rw [show l0 + (j : Int) + 1 = l0 + ((j + 1 : Nat) : Int) by omega]) ih9))))
            | (rw [show stp (dpF M) (fun v => M 435 v) k v (X, Y, a, b) = (upf X a (M 435 v), Y, a + 1, b) by (unfold stp; rw [if_pos (by omega), if_neg (by omega)])] at ih9; exact wk8 (wk9 (V.cm rfl (evM_X (by omega) (fun c _ _ => rfl)) (V.al (by rw [show l0 + (j : Int) + 1 = l0 + ((j + 1 : Nat) : Int) by omega]) ih9))))
            | (rw [show stp (dpF M) (fun v => M 435 v) k v (X, Y, a, b) = (X, Y, a + -1, b + -1) by (unfold stp; rw [if_neg (by omega), if_pos (by omega), if_neg (by assumption)])] at ih9; exact wk8 (wk9 (V.cm rfl rfl (V.al (by rw [show l0 + (j : Int) + 1 = l0 + ((j + 1 : Nat) : Int) by omega]) ih9))))
            | (rw [show stp (dpF M) (fun v => M 435 v) k v (X, Y, a, b) = (upf X (a + -1 - 1) (X (a + -1)), Y, a + -1, b + -1) by (unfold stp; rw [if_neg (by omega), if_pos (by omega), if_pos (by assumption)])] at ih9; exact wk8 (wk9 (V.cm rfl (evM_X (by omega) (fun c _ _ => rfl)) (V.al (by rw [show l0 + (j : Int) + 1 = l0 + ((j + 1 : Nat) : Int) by omega]) ih9))))
            | (rw [show stp (dpF M) (fun v => M 435 v) k v (X, Y, a, b) = (upf X (a - 1) (-(X (a - 1))), Y, a, b) by (unfold stp; rw [if_neg (by omega), if_neg (by omega), if_pos (by omega), if_pos (by omega)])] at ih9; exact wk8 (wk9 (V.cm rfl (evM_X (by omega) (fun c _ _ => rfl)) (V.al (by rw [show l0 + (j : Int) + 1 = l0 + ((j + 1 : Nat) : Int) by omega]) ih9))))
            | (rw [show stp (dpF M) (fun v => M 435 v) k v (X, Y, a, b) = (upf X (a - 1) (dpF M (X (a - 1))), Y, a, b) by (unfold stp; rw [if_neg (by omega), if_neg (by omega), if_pos (by omega), if_neg (by omega), if_pos (by omega)])] at ih9; exact wk8 (wk9 (V.cm rfl (evM_X (by omega) (fun c _ _ => rfl)) (V.al (by rw [show l0 + (j : Int) + 1 = l0 + ((j + 1 : Nat) : Int) by omega]) ih9))))
            | (rw [show stp (dpF M) (fun v => M 435 v) k v (X, Y, a, b) = (upf X (a - 1) (trd (X (a - 1))), Y, a, b) by (unfold stp; rw [if_neg (by omega), if_neg (by omega), if_pos (by omega), if_neg (by omega), if_neg (by omega)])] at ih9; exact wk8 (wk9 (V.cm rfl (evM_X (by omega) (fun c _ _ => rfl)) (V.al (by rw [show l0 + (j : Int) + 1 = l0 + ((j + 1 : Nat) : Int) by omega]) ih9))))
            | (rw [show stp (dpF M) (fun v => M 435 v) k v (X, Y, a, b) = (upf X (a + -1 - 1) (two k (X (a + -1 - 1)) (X (a + -1))), Y, a + -1, b) by (unfold stp; rw [if_neg (by omega), if_neg (by omega), if_neg (by omega), if_pos (by omega)])] at ih9; exact wk8 (wk9 (V.cm rfl (evM_X (by omega) (fun c _ _ => rfl)) (V.al (by rw [show l0 + (j : Int) + 1 = l0 + ((j + 1 : Nat) : Int) by omega]) ih9))))
            | (rw [show stp (dpF M) (fun v => M 435 v) k v (X, Y, a, b) = (X, upf Y b (askd k (X (a + -2)) (X (a + -2 + 1))), a + -2, b + 1) by (unfold stp; rw [if_neg (by omega), if_neg (by omega), if_neg (by omega), if_neg (by omega), if_pos (by omega)])] at ih9; exact wk8 (wk9 (V.cm rfl (evM_Y (by omega) (fun c _ _ => rfl)) (V.al (by rw [show l0 + (j : Int) + 1 = l0 + ((j + 1 : Nat) : Int) by omega]) ih9))))
            | (rw [show stp (dpF M) (fun v => M 435 v) k v (X, Y, a, b) = (X, upf Y (b - 1) 1, a, b) by (unfold stp; rw [if_neg (by omega), if_neg (by omega), if_neg (by omega), if_neg (by omega), if_neg (by omega), if_pos (by omega), if_pos (by assumption)])] at ih9; exact wk8 (wk9 (V.cm rfl (evM_Y (by omega) (fun c _ _ => rfl)) (V.al (by rw [show l0 + (j : Int) + 1 = l0 + ((j + 1 : Nat) : Int) by omega]) ih9))))
            | (rw [show stp (dpF M) (fun v => M 435 v) k v (X, Y, a, b) = (X, upf Y (b - 1) 0, a, b) by (unfold stp; rw [if_neg (by omega), if_neg (by omega), if_neg (by omega), if_neg (by omega), if_neg (by omega), if_pos (by omega), if_neg (by assumption)])] at ih9; exact wk8 (wk9 (V.cm rfl (evM_Y (by omega) (fun c _ _ => rfl)) (V.al (by rw [show l0 + (j : Int) + 1 = l0 + ((j + 1 : Nat) : Int) by omega]) ih9))))
            | (rw [show stp (dpF M) (fun v => M 435 v) k v (X, Y, a, b) = (X, upf Y (b + -1 - 1) (joi k (Y (b + -1 - 1)) (Y (b + -1))), a, b + -1) by (unfold stp; rw [if_neg (by omega), if_neg (by omega), if_neg (by omega), if_neg (by omega), if_neg (by omega), if_neg (by omega)])] at ih9; exact wk8 (wk9 (V.cm rfl (evM_Y (by omega) (fun c _ _ => rfl)) (V.al (by rw [show l0 + (j : Int) + 1 = l0 + ((j + 1 : Nat) : Int) by omega]) ih9))))
        · refine r_aload_n dX11_summedUp_166 rfl (by decide) ?_
          refine r_getr (x := 436) dX11_summedUp_167 flX11_35 sf429 (by decide) (by decide) rfl rfl ?_
          refine r_iload dX11_summedUp_170 rfl ?_
          refine r_iconst dX11_summedUp_172 (by decide) ?_
          refine r_isub dX11_summedUp_173 (w32_id (by omega)) ?_
          refine r_iload dX11_summedUp_174 rfl ?_
          refine r_iconst dX11_summedUp_176 (by decide) ?_
          refine r_icmp_ne (tgt := 193) dX11_summedUp_177 (by decide) (fun h177 => ?_) (fun h177 => ?_)
          · refine r_iload dX11_summedUp_193 rfl ?_
            refine r_iconst dX11_summedUp_195 (by decide) ?_
            refine r_icmp_ne (tgt := 215) dX11_summedUp_196 (by decide) (fun h196 => ?_) (fun h196 => ?_)
            · refine r_aload_n dX11_summedUp_215 rfl (by decide) ?_
              refine r_getr (x := 436) dX11_summedUp_216 flX11_35 sf429 (by decide) (by decide) rfl rfl ?_
              refine r_iload dX11_summedUp_219 rfl ?_
              refine r_iconst dX11_summedUp_221 (by decide) ?_
              refine r_isub dX11_summedUp_222 (w32_id (by omega)) ?_
              refine r_lald dX11_summedUp_223 sf436 (by decide) (by omega) (by omega) (by decide) (rd_evX (by omega) rfl) ?_
              refine r_cs1 dX11_summedUp_224 clX11_274 (by first | decide | omega) (Nat.le_of_ble_eq_true rfl) ((c_turned (hB _ (by omega) (by omega)))) ⟨Nat.zero_le _, Nat.zero_le _⟩ (fun _ => ?_)
              refine r_last dX11_summedUp_227 sf436 (by decide) (by omega) (by omega) (by decide) rfl ?_
              refine r_goto (tgt := 387) dX11_summedUp_228 (by decide) ?_
              refine r_iinc dX11_summedUp_387 rfl rfl (by decide) (w32_id (by omega)) st7 ?_
              refine r_goto (tgt := 38) dX11_summedUp_390 (by decide) ?_
              first
              | (rw [show stp (dpF M) (fun v => M 435 v) k v (X, Y, a, b) = (upf X a v, Y, a + 1, b) by (unfold stp; rw [if_pos (by omega), if_pos (by omega)])] at ih9; exact wk8 (wk9 (V.cm rfl (evM_X (by omega) (fun c _ _ => rfl)) (V.al (by rw [show l0 + (j : Int) + 1 = l0 + ((j + 1 : Nat) : Int) by omega]) ih9))))
              | (rw [show stp (dpF M) (fun v => M 435 v) k v (X, Y, a, b) = (upf X a (M 435 v), Y, a + 1, b) by (unfold stp; rw [if_pos (by omega), if_neg (by omega)])] at ih9; exact wk8 (wk9 (V.cm rfl (evM_X (by omega) (fun c _ _ => rfl)) (V.al (by rw [show l0 + (j : Int) + 1 = l0 + ((j + 1 : Nat) : Int) by omega]) ih9))))
              | (rw [show stp (dpF M) (fun v => M 435 v) k v (X, Y, a, b) = (X, Y, a + -1, b + -1) by (unfold stp; rw [if_neg (by omega), if_pos (by omega), if_neg (by assumption)])] at ih9; exact wk8 (wk9 (V.cm rfl rfl (V.al (by rw [show l0 + (j : Int) + 1 = l0 + ((j + 1 : Nat) : Int) by omega]) ih9))))
              | (rw [show stp (dpF M) (fun v => M 435 v) k v (X, Y, a, b) = (upf X (a + -1 - 1) (X (a + -1)), Y, a + -1, b + -1) by (unfold stp; rw [if_neg (by omega), if_pos (by omega), if_pos (by assumption)])] at ih9; exact wk8 (wk9 (V.cm rfl (evM_X (by omega) (fun c _ _ => rfl)) (V.al (by rw [show l0 + (j : Int) + 1 = l0 + ((j + 1 : Nat) : Int) by omega]) ih9))))
              | (rw [show stp (dpF M) (fun v => M 435 v) k v (X, Y, a, b) = (upf X (a - 1) (-(X (a - 1))), Y, a, b) by (unfold stp; rw [if_neg (by omega), if_neg (by omega), if_pos (by omega), if_pos (by omega)])] at ih9; exact wk8 (wk9 (V.cm rfl (evM_X (by omega) (fun c _ _ => rfl)) (V.al (by rw [show l0 + (j : Int) + 1 = l0 + ((j + 1 : Nat) : Int) by omega]) ih9))))
              | (rw [show stp (dpF M) (fun v => M 435 v) k v (X, Y, a, b) = (upf X (a - 1) (dpF M (X (a - 1))), Y, a, b) by (unfold stp; rw [if_neg (by omega), if_neg (by omega), if_pos (by omega), if_neg (by omega), if_pos (by omega)])] at ih9; exact wk8 (wk9 (V.cm rfl (evM_X (by omega) (fun c _ _ => rfl)) (V.al (by rw [show l0 + (j : Int) + 1 = l0 + ((j + 1 : Nat) : Int) by omega]) ih9))))
              | (rw [show stp (dpF M) (fun v => M 435 v) k v (X, Y, a, b) = (upf X (a - 1) (trd (X (a - 1))), Y, a, b) by (unfold stp; rw [if_neg (by omega), if_neg (by omega), if_pos (by omega), if_neg (by omega), if_neg (by omega)])] at ih9; exact wk8 (wk9 (V.cm rfl (evM_X (by omega) (fun c _ _ => rfl)) (V.al (by rw [show l0 + (j : Int) + 1 = l0 + ((j + 1 : Nat) : Int) by omega]) ih9))))
              | (rw [show stp (dpF M) (fun v => M 435 v) k v (X, Y, a, b) = (upf X (a + -1 - 1) (two k (X (a + -1 - 1)) (X (a + -1))), Y, a + -1, b) by (unfold stp; rw [if_neg (by omega), if_neg (by omega), if_neg (by omega), if_pos (by omega)])] at ih9; exact wk8 (wk9 (V.cm rfl (evM_X (by omega) (fun c _ _ => rfl)) (V.al (by rw [show l0 + (j : Int) + 1 = l0 + ((j + 1 : Nat) : Int) by omega]) ih9))))
              | (rw [show stp (dpF M) (fun v => M 435 v) k v (X, Y, a, b) = (X, upf Y b (askd k (X (a + -2)) (X (a + -2 + 1))), a + -2, b + 1) by (unfold stp; rw [if_neg (by omega), if_neg (by omega), if_neg (by omega), if_neg (by omega), if_pos (by omega)])] at ih9; exact wk8 (wk9 (V.cm rfl (evM_Y (by omega) (fun c _ _ => rfl)) (V.al (by rw [show l0 + (j : Int) + 1 = l0 + ((j + 1 : Nat) : Int) by omega]) ih9))))
              | (rw [show stp (dpF M) (fun v => M 435 v) k v (X, Y, a, b) = (X, upf Y (b - 1) 1, a, b) by (unfold stp; rw [if_neg (by omega), if_neg (by omega), if_neg (by omega), if_neg (by omega), if_neg (by omega), if_pos (by omega), if_pos (by assumption)])] at ih9; exact wk8 (wk9 (V.cm rfl (evM_Y (by omega) (fun c _ _ => rfl)) (V.al (by rw [show l0 + (j : Int) + 1 = l0 + ((j + 1 : Nat) : Int) by omega]) ih9))))
              | (rw [show stp (dpF M) (fun v => M 435 v) k v (X, Y, a, b) = (X, upf Y (b - 1) 0, a, b) by (unfold stp; rw [if_neg (by omega), if_neg (by omega), if_neg (by omega), if_neg (by omega), if_neg (by omega), if_pos (by omega), if_neg (by assumption)])] at ih9; exact wk8 (wk9 (V.cm rfl (evM_Y (by omega) (fun c _ _ => rfl)) (V.al (by rw [show l0 + (j : Int) + 1 = l0 + ((j + 1 : Nat) : Int) by omega]) ih9))))
              | (rw [show stp (dpF M) (fun v => M 435 v) k v (X, Y, a, b) = (X, upf Y (b + -1 - 1) (joi k (Y (b + -1 - 1)) (Y (b + -1))), a, b + -1) by (unfold stp; rw [if_neg (by omega), if_neg (by omega), if_neg (by omega), if_neg (by omega), if_neg (by omega), if_neg (by omega)])] at ih9; exact wk8 (wk9 (V.cm rfl (evM_Y (by omega) (fun c _ _ => rfl)) (V.al (by rw [show l0 + (j : Int) + 1 = l0 + ((j + 1 : Nat) : Int) by omega]) ih9))))
            · refine r_aload_n dX11_summedUp_199 rfl (by decide) ?_
              refine r_aload_n dX11_summedUp_200 rfl (by decide) ?_
              refine r_getr (x := 436) dX11_summedUp_201 flX11_35 sf429 (by decide) (by decide) rfl rfl ?_
              refine r_iload dX11_summedUp_204 rfl ?_
              refine r_iconst dX11_summedUp_206 (by decide) ?_
              refine r_isub dX11_summedUp_207 (w32_id (by omega)) ?_
              refine r_lald dX11_summedUp_208 sf436 (by decide) (by omega) (by omega) (by decide) (rd_evX (by omega) rfl) ?_
              refine r_cv1 dX11_summedUp_209 clX11_271 sf429 (by decide) (by decide) rfl (by first | decide | omega) (Nat.le_of_ble_eq_true rfl) ((c_deepOf (by rw [evM_row]; exact h14))) ⟨Nat.zero_le _, Nat.zero_le _⟩ (fun _ => ?_)
              rw [show ∀ v, dpF (evM M X Y) v = dpF M v from fun v => by unfold dpF; rw [evM_row]]
              refine r_goto (tgt := 227) dX11_summedUp_212 (by decide) ?_
              refine r_last dX11_summedUp_227 sf436 (by decide) (by omega) (by omega) (by decide) rfl ?_
              refine r_goto (tgt := 387) dX11_summedUp_228 (by decide) ?_
              refine r_iinc dX11_summedUp_387 rfl rfl (by decide) (w32_id (by omega)) st7 ?_
              refine r_goto (tgt := 38) dX11_summedUp_390 (by decide) ?_
              first
              | (rw [show stp (dpF M) (fun v => M 435 v) k v (X, Y, a, b) = (upf X a v, Y, a + 1, b) by (unfold stp; rw [if_pos (by omega), if_pos (by omega)])] at ih9; exact wk8 (wk9 (V.cm rfl (evM_X (by omega) (fun c _ _ => rfl)) (V.al (by rw [show l0 + (j : Int) + 1 = l0 + ((j + 1 : Nat) : Int) by omega]) ih9))))
              | (rw [show stp (dpF M) (fun v => M 435 v) k v (X, Y, a, b) = (upf X a (M 435 v), Y, a + 1, b) by (unfold stp; rw [if_pos (by omega), if_neg (by omega)])] at ih9; exact wk8 (wk9 (V.cm rfl (evM_X (by omega) (fun c _ _ => rfl)) (V.al (by rw [show l0 + (j : Int) + 1 = l0 + ((j + 1 : Nat) : Int) by omega]) ih9))))
              | (rw [show stp (dpF M) (fun v => M 435 v) k v (X, Y, a, b) = (X, Y, a + -1, b + -1) by (unfold stp; rw [if_neg (by omega), if_pos (by omega), if_neg (by assumption)])] at ih9; exact wk8 (wk9 (V.cm rfl rfl (V.al (by rw [show l0 + (j : Int) + 1 = l0 + ((j + 1 : Nat) : Int) by omega]) ih9))))
              | (rw [show stp (dpF M) (fun v => M 435 v) k v (X, Y, a, b) = (upf X (a + -1 - 1) (X (a + -1)), Y, a + -1, b + -1) by (unfold stp; rw [if_neg (by omega), if_pos (by omega), if_pos (by assumption)])] at ih9; exact wk8 (wk9 (V.cm rfl (evM_X (by omega) (fun c _ _ => rfl)) (V.al (by rw [show l0 + (j : Int) + 1 = l0 + ((j + 1 : Nat) : Int) by omega]) ih9))))
              | (rw [show stp (dpF M) (fun v => M 435 v) k v (X, Y, a, b) = (upf X (a - 1) (-(X (a - 1))), Y, a, b) by (unfold stp; rw [if_neg (by omega), if_neg (by omega), if_pos (by omega), if_pos (by omega)])] at ih9; exact wk8 (wk9 (V.cm rfl (evM_X (by omega) (fun c _ _ => rfl)) (V.al (by rw [show l0 + (j : Int) + 1 = l0 + ((j + 1 : Nat) : Int) by omega]) ih9))))
              | (rw [show stp (dpF M) (fun v => M 435 v) k v (X, Y, a, b) = (upf X (a - 1) (dpF M (X (a - 1))), Y, a, b) by (unfold stp; rw [if_neg (by omega), if_neg (by omega), if_pos (by omega), if_neg (by omega), if_pos (by omega)])] at ih9; exact wk8 (wk9 (V.cm rfl (evM_X (by omega) (fun c _ _ => rfl)) (V.al (by rw [show l0 + (j : Int) + 1 = l0 + ((j + 1 : Nat) : Int) by omega]) ih9))))
              | (rw [show stp (dpF M) (fun v => M 435 v) k v (X, Y, a, b) = (upf X (a - 1) (trd (X (a - 1))), Y, a, b) by (unfold stp; rw [if_neg (by omega), if_neg (by omega), if_pos (by omega), if_neg (by omega), if_neg (by omega)])] at ih9; exact wk8 (wk9 (V.cm rfl (evM_X (by omega) (fun c _ _ => rfl)) (V.al (by rw [show l0 + (j : Int) + 1 = l0 + ((j + 1 : Nat) : Int) by omega]) ih9))))
              | (rw [show stp (dpF M) (fun v => M 435 v) k v (X, Y, a, b) = (upf X (a + -1 - 1) (two k (X (a + -1 - 1)) (X (a + -1))), Y, a + -1, b) by (unfold stp; rw [if_neg (by omega), if_neg (by omega), if_neg (by omega), if_pos (by omega)])] at ih9; exact wk8 (wk9 (V.cm rfl (evM_X (by omega) (fun c _ _ => rfl)) (V.al (by rw [show l0 + (j : Int) + 1 = l0 + ((j + 1 : Nat) : Int) by omega]) ih9))))
              | (rw [show stp (dpF M) (fun v => M 435 v) k v (X, Y, a, b) = (X, upf Y b (askd k (X (a + -2)) (X (a + -2 + 1))), a + -2, b + 1) by (unfold stp; rw [if_neg (by omega), if_neg (by omega), if_neg (by omega), if_neg (by omega), if_pos (by omega)])] at ih9; exact wk8 (wk9 (V.cm rfl (evM_Y (by omega) (fun c _ _ => rfl)) (V.al (by rw [show l0 + (j : Int) + 1 = l0 + ((j + 1 : Nat) : Int) by omega]) ih9))))
              | (rw [show stp (dpF M) (fun v => M 435 v) k v (X, Y, a, b) = (X, upf Y (b - 1) 1, a, b) by (unfold stp; rw [if_neg (by omega), if_neg (by omega), if_neg (by omega), if_neg (by omega), if_neg (by omega), if_pos (by omega), if_pos (by assumption)])] at ih9; exact wk8 (wk9 (V.cm rfl (evM_Y (by omega) (fun c _ _ => rfl)) (V.al (by rw [show l0 + (j : Int) + 1 = l0 + ((j + 1 : Nat) : Int) by omega]) ih9))))
              | (rw [show stp (dpF M) (fun v => M 435 v) k v (X, Y, a, b) = (X, upf Y (b - 1) 0, a, b) by (unfold stp; rw [if_neg (by omega), if_neg (by omega), if_neg (by omega), if_neg (by omega), if_neg (by omega), if_pos (by omega), if_neg (by assumption)])] at ih9; exact wk8 (wk9 (V.cm rfl (evM_Y (by omega) (fun c _ _ => rfl)) (V.al (by rw [show l0 + (j : Int) + 1 = l0 + ((j + 1 : Nat) : Int) by omega]) ih9))))
              | (rw [show stp (dpF M) (fun v => M 435 v) k v (X, Y, a, b) = (X, upf Y (b + -1 - 1) (joi k (Y (b + -1 - 1)) (Y (b + -1))), a, b + -1) by (unfold stp; rw [if_neg (by omega), if_neg (by omega), if_neg (by omega), if_neg (by omega), if_neg (by omega), if_neg (by omega)])] at ih9; exact wk8 (wk9 (V.cm rfl (evM_Y (by omega) (fun c _ _ => rfl)) (V.al (by rw [show l0 + (j : Int) + 1 = l0 + ((j + 1 : Nat) : Int) by omega]) ih9))))
          · refine r_aload_n dX11_summedUp_180 rfl (by decide) ?_
            refine r_getr (x := 436) dX11_summedUp_181 flX11_35 sf429 (by decide) (by decide) rfl rfl ?_
            refine r_iload dX11_summedUp_184 rfl ?_
            refine r_iconst dX11_summedUp_186 (by decide) ?_
            refine r_isub dX11_summedUp_187 (w32_id (by omega)) ?_
            refine r_lald dX11_summedUp_188 sf436 (by decide) (by omega) (by omega) (by decide) (rd_evX (by omega) rfl) ?_
            refine r_lneg dX11_summedUp_189 (w64_id (by have := hB (a - 1) (by omega) (by omega); omega)) ?_
            refine r_goto (tgt := 227) dX11_summedUp_190 (by decide) ?_
            refine r_last dX11_summedUp_227 sf436 (by decide) (by omega) (by omega) (by decide) rfl ?_
            refine r_goto (tgt := 387) dX11_summedUp_228 (by decide) ?_
            refine r_iinc dX11_summedUp_387 rfl rfl (by decide) (w32_id (by omega)) st7 ?_
            refine r_goto (tgt := 38) dX11_summedUp_390 (by decide) ?_
            first
            | (rw [show stp (dpF M) (fun v => M 435 v) k v (X, Y, a, b) = (upf X a v, Y, a + 1, b) by (unfold stp; rw [if_pos (by omega), if_pos (by omega)])] at ih9; exact wk8 (wk9 (V.cm rfl (evM_X (by omega) (fun c _ _ => rfl)) (V.al (by rw [show l0 + (j : Int) + 1 = l0 + ((j + 1 : Nat) : Int) by omega]) ih9))))
            | (rw [show stp (dpF M) (fun v => M 435 v) k v (X, Y, a, b) = (upf X a (M 435 v), Y, a + 1, b) by (unfold stp; rw [if_pos (by omega), if_neg (by omega)])] at ih9; exact wk8 (wk9 (V.cm rfl (evM_X (by omega) (fun c _ _ => rfl)) (V.al (by rw [show l0 + (j : Int) + 1 = l0 + ((j + 1 : Nat) : Int) by omega]) ih9))))
            | (rw [show stp (dpF M) (fun v => M 435 v) k v (X, Y, a, b) = (X, Y, a + -1, b + -1) by (unfold stp; rw [if_neg (by omega), if_pos (by omega), if_neg (by assumption)])] at ih9; exact wk8 (wk9 (V.cm rfl rfl (V.al (by rw [show l0 + (j : Int) + 1 = l0 + ((j + 1 : Nat) : Int) by omega]) ih9))))
            | (rw [show stp (dpF M) (fun v => M 435 v) k v (X, Y, a, b) = (upf X (a + -1 - 1) (X (a + -1)), Y, a + -1, b + -1) by (unfold stp; rw [if_neg (by omega), if_pos (by omega), if_pos (by assumption)])] at ih9; exact wk8 (wk9 (V.cm rfl (evM_X (by omega) (fun c _ _ => rfl)) (V.al (by rw [show l0 + (j : Int) + 1 = l0 + ((j + 1 : Nat) : Int) by omega]) ih9))))
            | (rw [show stp (dpF M) (fun v => M 435 v) k v (X, Y, a, b) = (upf X (a - 1) (-(X (a - 1))), Y, a, b) by (unfold stp; rw [if_neg (by omega), if_neg (by omega), if_pos (by omega), if_pos (by omega)])] at ih9; exact wk8 (wk9 (V.cm rfl (evM_X (by omega) (fun c _ _ => rfl)) (V.al (by rw [show l0 + (j : Int) + 1 = l0 + ((j + 1 : Nat) : Int) by omega]) ih9))))
            | (rw [show stp (dpF M) (fun v => M 435 v) k v (X, Y, a, b) = (upf X (a - 1) (dpF M (X (a - 1))), Y, a, b) by (unfold stp; rw [if_neg (by omega), if_neg (by omega), if_pos (by omega), if_neg (by omega), if_pos (by omega)])] at ih9; exact wk8 (wk9 (V.cm rfl (evM_X (by omega) (fun c _ _ => rfl)) (V.al (by rw [show l0 + (j : Int) + 1 = l0 + ((j + 1 : Nat) : Int) by omega]) ih9))))
            | (rw [show stp (dpF M) (fun v => M 435 v) k v (X, Y, a, b) = (upf X (a - 1) (trd (X (a - 1))), Y, a, b) by (unfold stp; rw [if_neg (by omega), if_neg (by omega), if_pos (by omega), if_neg (by omega), if_neg (by omega)])] at ih9; exact wk8 (wk9 (V.cm rfl (evM_X (by omega) (fun c _ _ => rfl)) (V.al (by rw [show l0 + (j : Int) + 1 = l0 + ((j + 1 : Nat) : Int) by omega]) ih9))))
            | (rw [show stp (dpF M) (fun v => M 435 v) k v (X, Y, a, b) = (upf X (a + -1 - 1) (two k (X (a + -1 - 1)) (X (a + -1))), Y, a + -1, b) by (unfold stp; rw [if_neg (by omega), if_neg (by omega), if_neg (by omega), if_pos (by omega)])] at ih9; exact wk8 (wk9 (V.cm rfl (evM_X (by omega) (fun c _ _ => rfl)) (V.al (by rw [show l0 + (j : Int) + 1 = l0 + ((j + 1 : Nat) : Int) by omega]) ih9))))
            | (rw [show stp (dpF M) (fun v => M 435 v) k v (X, Y, a, b) = (X, upf Y b (askd k (X (a + -2)) (X (a + -2 + 1))), a + -2, b + 1) by (unfold stp; rw [if_neg (by omega), if_neg (by omega), if_neg (by omega), if_neg (by omega), if_pos (by omega)])] at ih9; exact wk8 (wk9 (V.cm rfl (evM_Y (by omega) (fun c _ _ => rfl)) (V.al (by rw [show l0 + (j : Int) + 1 = l0 + ((j + 1 : Nat) : Int) by omega]) ih9))))
            | (rw [show stp (dpF M) (fun v => M 435 v) k v (X, Y, a, b) = (X, upf Y (b - 1) 1, a, b) by (unfold stp; rw [if_neg (by omega), if_neg (by omega), if_neg (by omega), if_neg (by omega), if_neg (by omega), if_pos (by omega), if_pos (by assumption)])] at ih9; exact wk8 (wk9 (V.cm rfl (evM_Y (by omega) (fun c _ _ => rfl)) (V.al (by rw [show l0 + (j : Int) + 1 = l0 + ((j + 1 : Nat) : Int) by omega]) ih9))))
            | (rw [show stp (dpF M) (fun v => M 435 v) k v (X, Y, a, b) = (X, upf Y (b - 1) 0, a, b) by (unfold stp; rw [if_neg (by omega), if_neg (by omega), if_neg (by omega), if_neg (by omega), if_neg (by omega), if_pos (by omega), if_neg (by assumption)])] at ih9; exact wk8 (wk9 (V.cm rfl (evM_Y (by omega) (fun c _ _ => rfl)) (V.al (by rw [show l0 + (j : Int) + 1 = l0 + ((j + 1 : Nat) : Int) by omega]) ih9))))
            | (rw [show stp (dpF M) (fun v => M 435 v) k v (X, Y, a, b) = (X, upf Y (b + -1 - 1) (joi k (Y (b + -1 - 1)) (Y (b + -1))), a, b + -1) by (unfold stp; rw [if_neg (by omega), if_neg (by omega), if_neg (by omega), if_neg (by omega), if_neg (by omega), if_neg (by omega)])] at ih9; exact wk8 (wk9 (V.cm rfl (evM_Y (by omega) (fun c _ _ => rfl)) (V.al (by rw [show l0 + (j : Int) + 1 = l0 + ((j + 1 : Nat) : Int) by omega]) ih9))))
      · refine r_iinc dX11_summedUp_125 rfl rfl (by decide) (w32_id (by omega)) st5 ?_
        refine r_iinc dX11_summedUp_128 rfl rfl (by decide) (w32_id (by omega)) st6 ?_
        refine r_aload_n dX11_summedUp_131 rfl (by decide) ?_
        refine r_getr (x := 437) dX11_summedUp_132 flX11_39 sf429 (by decide) (by decide) rfl rfl ?_
        refine r_iload dX11_summedUp_135 rfl ?_
        refine r_zald dX11_summedUp_137 sf437 (by decide) (by omega) (by omega) (by decide) (rd_evY (by omega) rfl) ?_
        refine r_if_ne (tgt := 387) dX11_summedUp_138 (by decide) (fun h138 => ?_) (fun h138 => ?_)
        · try have h138 := bi_1.mp h138
          refine r_iinc dX11_summedUp_387 rfl rfl (by decide) (w32_id (by omega)) st7 ?_
          refine r_goto (tgt := 38) dX11_summedUp_390 (by decide) ?_
          first
          | (rw [show stp (dpF M) (fun v => M 435 v) k v (X, Y, a, b) = (upf X a v, Y, a + 1, b) by (unfold stp; rw [if_pos (by omega), if_pos (by omega)])] at ih9; exact wk8 (wk9 (V.cm rfl (evM_X (by omega) (fun c _ _ => rfl)) (V.al (by rw [show l0 + (j : Int) + 1 = l0 + ((j + 1 : Nat) : Int) by omega]) ih9))))
          | (rw [show stp (dpF M) (fun v => M 435 v) k v (X, Y, a, b) = (upf X a (M 435 v), Y, a + 1, b) by (unfold stp; rw [if_pos (by omega), if_neg (by omega)])] at ih9; exact wk8 (wk9 (V.cm rfl (evM_X (by omega) (fun c _ _ => rfl)) (V.al (by rw [show l0 + (j : Int) + 1 = l0 + ((j + 1 : Nat) : Int) by omega]) ih9))))
          | (rw [show stp (dpF M) (fun v => M 435 v) k v (X, Y, a, b) = (X, Y, a + -1, b + -1) by (unfold stp; rw [if_neg (by omega), if_pos (by omega), if_neg (by assumption)])] at ih9; exact wk8 (wk9 (V.cm rfl rfl (V.al (by rw [show l0 + (j : Int) + 1 = l0 + ((j + 1 : Nat) : Int) by omega]) ih9))))
          | (rw [show stp (dpF M) (fun v => M 435 v) k v (X, Y, a, b) = (upf X (a + -1 - 1) (X (a + -1)), Y, a + -1, b + -1) by (unfold stp; rw [if_neg (by omega), if_pos (by omega), if_pos (by assumption)])] at ih9; exact wk8 (wk9 (V.cm rfl (evM_X (by omega) (fun c _ _ => rfl)) (V.al (by rw [show l0 + (j : Int) + 1 = l0 + ((j + 1 : Nat) : Int) by omega]) ih9))))
          | (rw [show stp (dpF M) (fun v => M 435 v) k v (X, Y, a, b) = (upf X (a - 1) (-(X (a - 1))), Y, a, b) by (unfold stp; rw [if_neg (by omega), if_neg (by omega), if_pos (by omega), if_pos (by omega)])] at ih9; exact wk8 (wk9 (V.cm rfl (evM_X (by omega) (fun c _ _ => rfl)) (V.al (by rw [show l0 + (j : Int) + 1 = l0 + ((j + 1 : Nat) : Int) by omega]) ih9))))
          | (rw [show stp (dpF M) (fun v => M 435 v) k v (X, Y, a, b) = (upf X (a - 1) (dpF M (X (a - 1))), Y, a, b) by (unfold stp; rw [if_neg (by omega), if_neg (by omega), if_pos (by omega), if_neg (by omega), if_pos (by omega)])] at ih9; exact wk8 (wk9 (V.cm rfl (evM_X (by omega) (fun c _ _ => rfl)) (V.al (by rw [show l0 + (j : Int) + 1 = l0 + ((j + 1 : Nat) : Int) by omega]) ih9))))
          | (rw [show stp (dpF M) (fun v => M 435 v) k v (X, Y, a, b) = (upf X (a - 1) (trd (X (a - 1))), Y, a, b) by (unfold stp; rw [if_neg (by omega), if_neg (by omega), if_pos (by omega), if_neg (by omega), if_neg (by omega)])] at ih9; exact wk8 (wk9 (V.cm rfl (evM_X (by omega) (fun c _ _ => rfl)) (V.al (by rw [show l0 + (j : Int) + 1 = l0 + ((j + 1 : Nat) : Int) by omega]) ih9))))
          | (rw [show stp (dpF M) (fun v => M 435 v) k v (X, Y, a, b) = (upf X (a + -1 - 1) (two k (X (a + -1 - 1)) (X (a + -1))), Y, a + -1, b) by (unfold stp; rw [if_neg (by omega), if_neg (by omega), if_neg (by omega), if_pos (by omega)])] at ih9; exact wk8 (wk9 (V.cm rfl (evM_X (by omega) (fun c _ _ => rfl)) (V.al (by rw [show l0 + (j : Int) + 1 = l0 + ((j + 1 : Nat) : Int) by omega]) ih9))))
          | (rw [show stp (dpF M) (fun v => M 435 v) k v (X, Y, a, b) = (X, upf Y b (askd k (X (a + -2)) (X (a + -2 + 1))), a + -2, b + 1) by (unfold stp; rw [if_neg (by omega), if_neg (by omega), if_neg (by omega), if_neg (by omega), if_pos (by omega)])] at ih9; exact wk8 (wk9 (V.cm rfl (evM_Y (by omega) (fun c _ _ => rfl)) (V.al (by rw [show l0 + (j : Int) + 1 = l0 + ((j + 1 : Nat) : Int) by omega]) ih9))))
          | (rw [show stp (dpF M) (fun v => M 435 v) k v (X, Y, a, b) = (X, upf Y (b - 1) 1, a, b) by (unfold stp; rw [if_neg (by omega), if_neg (by omega), if_neg (by omega), if_neg (by omega), if_neg (by omega), if_pos (by omega), if_pos (by assumption)])] at ih9; exact wk8 (wk9 (V.cm rfl (evM_Y (by omega) (fun c _ _ => rfl)) (V.al (by rw [show l0 + (j : Int) + 1 = l0 + ((j + 1 : Nat) : Int) by omega]) ih9))))
          | (rw [show stp (dpF M) (fun v => M 435 v) k v (X, Y, a, b) = (X, upf Y (b - 1) 0, a, b) by (unfold stp; rw [if_neg (by omega), if_neg (by omega), if_neg (by omega), if_neg (by omega), if_neg (by omega), if_pos (by omega), if_neg (by assumption)])] at ih9; exact wk8 (wk9 (V.cm rfl (evM_Y (by omega) (fun c _ _ => rfl)) (V.al (by rw [show l0 + (j : Int) + 1 = l0 + ((j + 1 : Nat) : Int) by omega]) ih9))))
          | (rw [show stp (dpF M) (fun v => M 435 v) k v (X, Y, a, b) = (X, upf Y (b + -1 - 1) (joi k (Y (b + -1 - 1)) (Y (b + -1))), a, b + -1) by (unfold stp; rw [if_neg (by omega), if_neg (by omega), if_neg (by omega), if_neg (by omega), if_neg (by omega), if_neg (by omega)])] at ih9; exact wk8 (wk9 (V.cm rfl (evM_Y (by omega) (fun c _ _ => rfl)) (V.al (by rw [show l0 + (j : Int) + 1 = l0 + ((j + 1 : Nat) : Int) by omega]) ih9))))
        · try have h138 := bi_0.mp h138
          refine r_aload_n dX11_summedUp_141 rfl (by decide) ?_
          refine r_getr (x := 436) dX11_summedUp_142 flX11_35 sf429 (by decide) (by decide) rfl rfl ?_
          refine r_iload dX11_summedUp_145 rfl ?_
          refine r_iconst dX11_summedUp_147 (by decide) ?_
          refine r_isub dX11_summedUp_148 (w32_id (by omega)) ?_
          refine r_aload_n dX11_summedUp_149 rfl (by decide) ?_
          refine r_getr (x := 436) dX11_summedUp_150 flX11_35 sf429 (by decide) (by decide) rfl rfl ?_
          refine r_iload dX11_summedUp_153 rfl ?_
          refine r_lald dX11_summedUp_155 sf436 (by decide) (by omega) (by omega) (by decide) (rd_evX (by omega) rfl) ?_
          refine r_last dX11_summedUp_156 sf436 (by decide) (by omega) (by omega) (by decide) rfl ?_
          refine r_goto (tgt := 387) dX11_summedUp_157 (by decide) ?_
          refine r_iinc dX11_summedUp_387 rfl rfl (by decide) (w32_id (by omega)) st7 ?_
          refine r_goto (tgt := 38) dX11_summedUp_390 (by decide) ?_
          first
          | (rw [show stp (dpF M) (fun v => M 435 v) k v (X, Y, a, b) = (upf X a v, Y, a + 1, b) by (unfold stp; rw [if_pos (by omega), if_pos (by omega)])] at ih9; exact wk8 (wk9 (V.cm rfl (evM_X (by omega) (fun c _ _ => rfl)) (V.al (by rw [show l0 + (j : Int) + 1 = l0 + ((j + 1 : Nat) : Int) by omega]) ih9))))
          | (rw [show stp (dpF M) (fun v => M 435 v) k v (X, Y, a, b) = (upf X a (M 435 v), Y, a + 1, b) by (unfold stp; rw [if_pos (by omega), if_neg (by omega)])] at ih9; exact wk8 (wk9 (V.cm rfl (evM_X (by omega) (fun c _ _ => rfl)) (V.al (by rw [show l0 + (j : Int) + 1 = l0 + ((j + 1 : Nat) : Int) by omega]) ih9))))
          | (rw [show stp (dpF M) (fun v => M 435 v) k v (X, Y, a, b) = (X, Y, a + -1, b + -1) by (unfold stp; rw [if_neg (by omega), if_pos (by omega), if_neg (by assumption)])] at ih9; exact wk8 (wk9 (V.cm rfl rfl (V.al (by rw [show l0 + (j : Int) + 1 = l0 + ((j + 1 : Nat) : Int) by omega]) ih9))))
          | (rw [show stp (dpF M) (fun v => M 435 v) k v (X, Y, a, b) = (upf X (a + -1 - 1) (X (a + -1)), Y, a + -1, b + -1) by (unfold stp; rw [if_neg (by omega), if_pos (by omega), if_pos (by assumption)])] at ih9; exact wk8 (wk9 (V.cm rfl (evM_X (by omega) (fun c _ _ => rfl)) (V.al (by rw [show l0 + (j : Int) + 1 = l0 + ((j + 1 : Nat) : Int) by omega]) ih9))))
          | (rw [show stp (dpF M) (fun v => M 435 v) k v (X, Y, a, b) = (upf X (a - 1) (-(X (a - 1))), Y, a, b) by (unfold stp; rw [if_neg (by omega), if_neg (by omega), if_pos (by omega), if_pos (by omega)])] at ih9; exact wk8 (wk9 (V.cm rfl (evM_X (by omega) (fun c _ _ => rfl)) (V.al (by rw [show l0 + (j : Int) + 1 = l0 + ((j + 1 : Nat) : Int) by omega]) ih9))))
          | (rw [show stp (dpF M) (fun v => M 435 v) k v (X, Y, a, b) = (upf X (a - 1) (dpF M (X (a - 1))), Y, a, b) by (unfold stp; rw [if_neg (by omega), if_neg (by omega), if_pos (by omega), if_neg (by omega), if_pos (by omega)])] at ih9; exact wk8 (wk9 (V.cm rfl (evM_X (by omega) (fun c _ _ => rfl)) (V.al (by rw [show l0 + (j : Int) + 1 = l0 + ((j + 1 : Nat) : Int) by omega]) ih9))))
          | (rw [show stp (dpF M) (fun v => M 435 v) k v (X, Y, a, b) = (upf X (a - 1) (trd (X (a - 1))), Y, a, b) by (unfold stp; rw [if_neg (by omega), if_neg (by omega), if_pos (by omega), if_neg (by omega), if_neg (by omega)])] at ih9; exact wk8 (wk9 (V.cm rfl (evM_X (by omega) (fun c _ _ => rfl)) (V.al (by rw [show l0 + (j : Int) + 1 = l0 + ((j + 1 : Nat) : Int) by omega]) ih9))))
          | (rw [show stp (dpF M) (fun v => M 435 v) k v (X, Y, a, b) = (upf X (a + -1 - 1) (two k (X (a + -1 - 1)) (X (a + -1))), Y, a + -1, b) by (unfold stp; rw [if_neg (by omega), if_neg (by omega), if_neg (by omega), if_pos (by omega)])] at ih9; exact wk8 (wk9 (V.cm rfl (evM_X (by omega) (fun c _ _ => rfl)) (V.al (by rw [show l0 + (j : Int) + 1 = l0 + ((j + 1 : Nat) : Int) by omega]) ih9))))
          | (rw [show stp (dpF M) (fun v => M 435 v) k v (X, Y, a, b) = (X, upf Y b (askd k (X (a + -2)) (X (a + -2 + 1))), a + -2, b + 1) by (unfold stp; rw [if_neg (by omega), if_neg (by omega), if_neg (by omega), if_neg (by omega), if_pos (by omega)])] at ih9; exact wk8 (wk9 (V.cm rfl (evM_Y (by omega) (fun c _ _ => rfl)) (V.al (by rw [show l0 + (j : Int) + 1 = l0 + ((j + 1 : Nat) : Int) by omega]) ih9))))
          | (rw [show stp (dpF M) (fun v => M 435 v) k v (X, Y, a, b) = (X, upf Y (b - 1) 1, a, b) by (unfold stp; rw [if_neg (by omega), if_neg (by omega), if_neg (by omega), if_neg (by omega), if_neg (by omega), if_pos (by omega), if_pos (by assumption)])] at ih9; exact wk8 (wk9 (V.cm rfl (evM_Y (by omega) (fun c _ _ => rfl)) (V.al (by rw [show l0 + (j : Int) + 1 = l0 + ((j + 1 : Nat) : Int) by omega]) ih9))))
          | (rw [show stp (dpF M) (fun v => M 435 v) k v (X, Y, a, b) = (X, upf Y (b - 1) 0, a, b) by (unfold stp; rw [if_neg (by omega), if_neg (by omega), if_neg (by omega), if_neg (by omega), if_neg (by omega), if_pos (by omega), if_neg (by assumption)])] at ih9; exact wk8 (wk9 (V.cm rfl (evM_Y (by omega) (fun c _ _ => rfl)) (V.al (by rw [show l0 + (j : Int) + 1 = l0 + ((j + 1 : Nat) : Int) by omega]) ih9))))
          | (rw [show stp (dpF M) (fun v => M 435 v) k v (X, Y, a, b) = (X, upf Y (b + -1 - 1) (joi k (Y (b + -1 - 1)) (Y (b + -1))), a, b + -1) by (unfold stp; rw [if_neg (by omega), if_neg (by omega), if_neg (by omega), if_neg (by omega), if_neg (by omega), if_neg (by omega)])] at ih9; exact wk8 (wk9 (V.cm rfl (evM_Y (by omega) (fun c _ _ => rfl)) (V.al (by rw [show l0 + (j : Int) + 1 = l0 + ((j + 1 : Nat) : Int) by omega]) ih9))))
    · refine r_aload_n dX11_summedUp_87 rfl (by decide) ?_
      refine r_getr (x := 436) dX11_summedUp_88 flX11_35 sf429 (by decide) (by decide) rfl rfl ?_
      refine r_iload dX11_summedUp_91 rfl ?_
      refine r_iload dX11_summedUp_93 rfl ?_
      refine r_if_ne (tgt := 104) dX11_summedUp_95 (by decide) (fun h95 => ?_) (fun h95 => ?_)
      · try have h95 := bi_1.mp h95
        refine r_aload_n dX11_summedUp_104 rfl (by decide) ?_
        refine r_getr (x := 435) dX11_summedUp_105 flX11_32 sf429 (by decide) (by decide) rfl rfl ?_
        refine r_iload dX11_summedUp_108 rfl ?_
        refine r_iald dX11_summedUp_110 sf435 (by decide) (by omega) (by omega) (by decide) (evM_o (by omega)) ?_
        refine r_i2l dX11_summedUp_111 ?_
        refine r_last dX11_summedUp_112 sf436 (by decide) (by omega) (by omega) (by decide) rfl ?_
        refine r_iinc dX11_summedUp_113 rfl rfl (by decide) (w32_id (by omega)) st5 ?_
        refine r_goto (tgt := 387) dX11_summedUp_116 (by decide) ?_
        refine r_iinc dX11_summedUp_387 rfl rfl (by decide) (w32_id (by omega)) st7 ?_
        refine r_goto (tgt := 38) dX11_summedUp_390 (by decide) ?_
        first
        | (rw [show stp (dpF M) (fun v => M 435 v) k v (X, Y, a, b) = (upf X a v, Y, a + 1, b) by (unfold stp; rw [if_pos (by omega), if_pos (by omega)])] at ih9; exact wk8 (wk9 (V.cm rfl (evM_X (by omega) (fun c _ _ => rfl)) (V.al (by rw [show l0 + (j : Int) + 1 = l0 + ((j + 1 : Nat) : Int) by omega]) ih9))))
        | (rw [show stp (dpF M) (fun v => M 435 v) k v (X, Y, a, b) = (upf X a (M 435 v), Y, a + 1, b) by (unfold stp; rw [if_pos (by omega), if_neg (by omega)])] at ih9; exact wk8 (wk9 (V.cm rfl (evM_X (by omega) (fun c _ _ => rfl)) (V.al (by rw [show l0 + (j : Int) + 1 = l0 + ((j + 1 : Nat) : Int) by omega]) ih9))))
        | (rw [show stp (dpF M) (fun v => M 435 v) k v (X, Y, a, b) = (X, Y, a + -1, b + -1) by (unfold stp; rw [if_neg (by omega), if_pos (by omega), if_neg (by assumption)])] at ih9; exact wk8 (wk9 (V.cm rfl rfl (V.al (by rw [show l0 + (j : Int) + 1 = l0 + ((j + 1 : Nat) : Int) by omega]) ih9))))
        | (rw [show stp (dpF M) (fun v => M 435 v) k v (X, Y, a, b) = (upf X (a + -1 - 1) (X (a + -1)), Y, a + -1, b + -1) by (unfold stp; rw [if_neg (by omega), if_pos (by omega), if_pos (by assumption)])] at ih9; exact wk8 (wk9 (V.cm rfl (evM_X (by omega) (fun c _ _ => rfl)) (V.al (by rw [show l0 + (j : Int) + 1 = l0 + ((j + 1 : Nat) : Int) by omega]) ih9))))
        | (rw [show stp (dpF M) (fun v => M 435 v) k v (X, Y, a, b) = (upf X (a - 1) (-(X (a - 1))), Y, a, b) by (unfold stp; rw [if_neg (by omega), if_neg (by omega), if_pos (by omega), if_pos (by omega)])] at ih9; exact wk8 (wk9 (V.cm rfl (evM_X (by omega) (fun c _ _ => rfl)) (V.al (by rw [show l0 + (j : Int) + 1 = l0 + ((j + 1 : Nat) : Int) by omega]) ih9))))
        | (rw [show stp (dpF M) (fun v => M 435 v) k v (X, Y, a, b) = (upf X (a - 1) (dpF M (X (a - 1))), Y, a, b) by (unfold stp; rw [if_neg (by omega), if_neg (by omega), if_pos (by omega), if_neg (by omega), if_pos (by omega)])] at ih9; exact wk8 (wk9 (V.cm rfl (evM_X (by omega) (fun c _ _ => rfl)) (V.al (by rw [show l0 + (j : Int) + 1 = l0 + ((j + 1 : Nat) : Int) by omega]) ih9))))
        | (rw [show stp (dpF M) (fun v => M 435 v) k v (X, Y, a, b) = (upf X (a - 1) (trd (X (a - 1))), Y, a, b) by (unfold stp; rw [if_neg (by omega), if_neg (by omega), if_pos (by omega), if_neg (by omega), if_neg (by omega)])] at ih9; exact wk8 (wk9 (V.cm rfl (evM_X (by omega) (fun c _ _ => rfl)) (V.al (by rw [show l0 + (j : Int) + 1 = l0 + ((j + 1 : Nat) : Int) by omega]) ih9))))
        | (rw [show stp (dpF M) (fun v => M 435 v) k v (X, Y, a, b) = (upf X (a + -1 - 1) (two k (X (a + -1 - 1)) (X (a + -1))), Y, a + -1, b) by (unfold stp; rw [if_neg (by omega), if_neg (by omega), if_neg (by omega), if_pos (by omega)])] at ih9; exact wk8 (wk9 (V.cm rfl (evM_X (by omega) (fun c _ _ => rfl)) (V.al (by rw [show l0 + (j : Int) + 1 = l0 + ((j + 1 : Nat) : Int) by omega]) ih9))))
        | (rw [show stp (dpF M) (fun v => M 435 v) k v (X, Y, a, b) = (X, upf Y b (askd k (X (a + -2)) (X (a + -2 + 1))), a + -2, b + 1) by (unfold stp; rw [if_neg (by omega), if_neg (by omega), if_neg (by omega), if_neg (by omega), if_pos (by omega)])] at ih9; exact wk8 (wk9 (V.cm rfl (evM_Y (by omega) (fun c _ _ => rfl)) (V.al (by rw [show l0 + (j : Int) + 1 = l0 + ((j + 1 : Nat) : Int) by omega]) ih9))))
        | (rw [show stp (dpF M) (fun v => M 435 v) k v (X, Y, a, b) = (X, upf Y (b - 1) 1, a, b) by (unfold stp; rw [if_neg (by omega), if_neg (by omega), if_neg (by omega), if_neg (by omega), if_neg (by omega), if_pos (by omega), if_pos (by assumption)])] at ih9; exact wk8 (wk9 (V.cm rfl (evM_Y (by omega) (fun c _ _ => rfl)) (V.al (by rw [show l0 + (j : Int) + 1 = l0 + ((j + 1 : Nat) : Int) by omega]) ih9))))
        | (rw [show stp (dpF M) (fun v => M 435 v) k v (X, Y, a, b) = (X, upf Y (b - 1) 0, a, b) by (unfold stp; rw [if_neg (by omega), if_neg (by omega), if_neg (by omega), if_neg (by omega), if_neg (by omega), if_pos (by omega), if_neg (by assumption)])] at ih9; exact wk8 (wk9 (V.cm rfl (evM_Y (by omega) (fun c _ _ => rfl)) (V.al (by rw [show l0 + (j : Int) + 1 = l0 + ((j + 1 : Nat) : Int) by omega]) ih9))))
        | (rw [show stp (dpF M) (fun v => M 435 v) k v (X, Y, a, b) = (X, upf Y (b + -1 - 1) (joi k (Y (b + -1 - 1)) (Y (b + -1))), a, b + -1) by (unfold stp; rw [if_neg (by omega), if_neg (by omega), if_neg (by omega), if_neg (by omega), if_neg (by omega), if_neg (by omega)])] at ih9; exact wk8 (wk9 (V.cm rfl (evM_Y (by omega) (fun c _ _ => rfl)) (V.al (by rw [show l0 + (j : Int) + 1 = l0 + ((j + 1 : Nat) : Int) by omega]) ih9))))
      · try have h95 := bi_0.mp h95
        refine r_iload dX11_summedUp_98 rfl ?_
        refine r_i2l dX11_summedUp_100 ?_
        refine r_goto (tgt := 112) dX11_summedUp_101 (by decide) ?_
        refine r_last dX11_summedUp_112 sf436 (by decide) (by omega) (by omega) (by decide) rfl ?_
        refine r_iinc dX11_summedUp_113 rfl rfl (by decide) (w32_id (by omega)) st5 ?_
        refine r_goto (tgt := 387) dX11_summedUp_116 (by decide) ?_
        refine r_iinc dX11_summedUp_387 rfl rfl (by decide) (w32_id (by omega)) st7 ?_
        refine r_goto (tgt := 38) dX11_summedUp_390 (by decide) ?_
        first
        | (rw [show stp (dpF M) (fun v => M 435 v) k v (X, Y, a, b) = (upf X a v, Y, a + 1, b) by (unfold stp; rw [if_pos (by omega), if_pos (by omega)])] at ih9; exact wk8 (wk9 (V.cm rfl (evM_X (by omega) (fun c _ _ => rfl)) (V.al (by rw [show l0 + (j : Int) + 1 = l0 + ((j + 1 : Nat) : Int) by omega]) ih9))))
        | (rw [show stp (dpF M) (fun v => M 435 v) k v (X, Y, a, b) = (upf X a (M 435 v), Y, a + 1, b) by (unfold stp; rw [if_pos (by omega), if_neg (by omega)])] at ih9; exact wk8 (wk9 (V.cm rfl (evM_X (by omega) (fun c _ _ => rfl)) (V.al (by rw [show l0 + (j : Int) + 1 = l0 + ((j + 1 : Nat) : Int) by omega]) ih9))))
        | (rw [show stp (dpF M) (fun v => M 435 v) k v (X, Y, a, b) = (X, Y, a + -1, b + -1) by (unfold stp; rw [if_neg (by omega), if_pos (by omega), if_neg (by assumption)])] at ih9; exact wk8 (wk9 (V.cm rfl rfl (V.al (by rw [show l0 + (j : Int) + 1 = l0 + ((j + 1 : Nat) : Int) by omega]) ih9))))
        | (rw [show stp (dpF M) (fun v => M 435 v) k v (X, Y, a, b) = (upf X (a + -1 - 1) (X (a + -1)), Y, a + -1, b + -1) by (unfold stp; rw [if_neg (by omega), if_pos (by omega), if_pos (by assumption)])] at ih9; exact wk8 (wk9 (V.cm rfl (evM_X (by omega) (fun c _ _ => rfl)) (V.al (by rw [show l0 + (j : Int) + 1 = l0 + ((j + 1 : Nat) : Int) by omega]) ih9))))
        | (rw [show stp (dpF M) (fun v => M 435 v) k v (X, Y, a, b) = (upf X (a - 1) (-(X (a - 1))), Y, a, b) by (unfold stp; rw [if_neg (by omega), if_neg (by omega), if_pos (by omega), if_pos (by omega)])] at ih9; exact wk8 (wk9 (V.cm rfl (evM_X (by omega) (fun c _ _ => rfl)) (V.al (by rw [show l0 + (j : Int) + 1 = l0 + ((j + 1 : Nat) : Int) by omega]) ih9))))
        | (rw [show stp (dpF M) (fun v => M 435 v) k v (X, Y, a, b) = (upf X (a - 1) (dpF M (X (a - 1))), Y, a, b) by (unfold stp; rw [if_neg (by omega), if_neg (by omega), if_pos (by omega), if_neg (by omega), if_pos (by omega)])] at ih9; exact wk8 (wk9 (V.cm rfl (evM_X (by omega) (fun c _ _ => rfl)) (V.al (by rw [show l0 + (j : Int) + 1 = l0 + ((j + 1 : Nat) : Int) by omega]) ih9))))
        | (rw [show stp (dpF M) (fun v => M 435 v) k v (X, Y, a, b) = (upf X (a - 1) (trd (X (a - 1))), Y, a, b) by (unfold stp; rw [if_neg (by omega), if_neg (by omega), if_pos (by omega), if_neg (by omega), if_neg (by omega)])] at ih9; exact wk8 (wk9 (V.cm rfl (evM_X (by omega) (fun c _ _ => rfl)) (V.al (by rw [show l0 + (j : Int) + 1 = l0 + ((j + 1 : Nat) : Int) by omega]) ih9))))
        | (rw [show stp (dpF M) (fun v => M 435 v) k v (X, Y, a, b) = (upf X (a + -1 - 1) (two k (X (a + -1 - 1)) (X (a + -1))), Y, a + -1, b) by (unfold stp; rw [if_neg (by omega), if_neg (by omega), if_neg (by omega), if_pos (by omega)])] at ih9; exact wk8 (wk9 (V.cm rfl (evM_X (by omega) (fun c _ _ => rfl)) (V.al (by rw [show l0 + (j : Int) + 1 = l0 + ((j + 1 : Nat) : Int) by omega]) ih9))))
        | (rw [show stp (dpF M) (fun v => M 435 v) k v (X, Y, a, b) = (X, upf Y b (askd k (X (a + -2)) (X (a + -2 + 1))), a + -2, b + 1) by (unfold stp; rw [if_neg (by omega), if_neg (by omega), if_neg (by omega), if_neg (by omega), if_pos (by omega)])] at ih9; exact wk8 (wk9 (V.cm rfl (evM_Y (by omega) (fun c _ _ => rfl)) (V.al (by rw [show l0 + (j : Int) + 1 = l0 + ((j + 1 : Nat) : Int) by omega]) ih9))))
        | (rw [show stp (dpF M) (fun v => M 435 v) k v (X, Y, a, b) = (X, upf Y (b - 1) 1, a, b) by (unfold stp; rw [if_neg (by omega), if_neg (by omega), if_neg (by omega), if_neg (by omega), if_neg (by omega), if_pos (by omega), if_pos (by assumption)])] at ih9; exact wk8 (wk9 (V.cm rfl (evM_Y (by omega) (fun c _ _ => rfl)) (V.al (by rw [show l0 + (j : Int) + 1 = l0 + ((j + 1 : Nat) : Int) by omega]) ih9))))
        | (rw [show stp (dpF M) (fun v => M 435 v) k v (X, Y, a, b) = (X, upf Y (b - 1) 0, a, b) by (unfold stp; rw [if_neg (by omega), if_neg (by omega), if_neg (by omega), if_neg (by omega), if_neg (by omega), if_pos (by omega), if_neg (by assumption)])] at ih9; exact wk8 (wk9 (V.cm rfl (evM_Y (by omega) (fun c _ _ => rfl)) (V.al (by rw [show l0 + (j : Int) + 1 = l0 + ((j + 1 : Nat) : Int) by omega]) ih9))))
        | (rw [show stp (dpF M) (fun v => M 435 v) k v (X, Y, a, b) = (X, upf Y (b + -1 - 1) (joi k (Y (b + -1 - 1)) (Y (b + -1))), a, b + -1) by (unfold stp; rw [if_neg (by omega), if_neg (by omega), if_neg (by omega), if_neg (by omega), if_neg (by omega), if_neg (by omega)])] at ih9; exact wk8 (wk9 (V.cm rfl (evM_Y (by omega) (fun c _ _ => rfl)) (V.al (by rw [show l0 + (j : Int) + 1 = l0 + ((j + 1 : Nat) : Int) by omega]) ih9))))
theorem m_summed0 {x y z : Int} {M : Me} {t l l0 : Int} {len : Nat} (ht : 0 ≤ t ∧ t < 4) (hl : 0 ≤ l ∧ l < 24) (h0 : M 432 (705 * t + 1 + 4 * l + 1) = l0) (h1 : M 432 (705 * t + 1 + 4 * l + 2) = l0 + len) (h2 : 0 ≤ l0) (h3 : l0 + len ≤ 300) (h14 : 0 ≤ M 430 14 ∧ M 430 14 ≤ 12) (hG : ∀ j : Nat, j < len → grd (M 432 (705 * t + 97 + 2 * (l0 + (j : Int)))) (M 432 (705 * t + 97 + 2 * (l0 + (j : Int)) + 1)) (rnS (dpF M) (fun v => M 435 v) (M 432) (705 * t + 97) l0 (fun c => M 436 c, fun c => M 437 c, 0, 0) j)) : Con kX11_summedUp 2 0 0 [(1, 429), (0, t), (0, l)] (Sf x y z) M (Ex (some (2, (rnS (dpF M) (fun v => M 435 v) (M 432) (705 * t + 97) l0 (fun c => M 436 c, fun c => M 437 c, 0, 0) len).1 0)) (Sf x y z) (evM M (rnS (dpF M) (fun v => M 435 v) (M 432) (705 * t + 97) l0 (fun c => M 436 c, fun c => M 437 c, 0, 0) len).1 (rnS (dpF M) (fun v => M 435 v) (M 432) (705 * t + 97) l0 (fun c => M 436 c, fun c => M 437 c, 0, 0) len).2.1)) := by
  refine Con.ofV (al := [(1, 429), (0, t), (0, l), (9, 0), (9, 0), (9, 0), (9, 0), (9, 0), (9, 0), (9, 0)]) 7 (by decide) (Nat.le_of_ble_eq_true rfl) rfl ?_
  refine r_sipush dX11_summedUp_0 (by decide) (by decide) ?_
  refine r_iload_n dX11_summedUp_3 rfl ?_
  refine r_imul dX11_summedUp_4 (w32_id (by omega)) ?_
  refine r_iconst dX11_summedUp_5 (by decide) ?_
  refine r_iadd dX11_summedUp_6 (w32_id (by omega)) ?_
  refine r_iconst dX11_summedUp_7 (by decide) ?_
  refine r_iload_n dX11_summedUp_8 rfl ?_
  refine r_imul dX11_summedUp_9 (w32_id (by omega)) ?_
  refine r_iadd dX11_summedUp_10 (w32_id (by omega)) ?_
  refine r_istore_n dX11_summedUp_11 rfl (by decide) st3 ?_
  refine r_sipush dX11_summedUp_12 (by decide) (by decide) ?_
  refine r_iload_n dX11_summedUp_15 rfl ?_
  refine r_imul dX11_summedUp_16 (w32_id (by omega)) ?_
  refine r_bipush dX11_summedUp_17 (by decide) (by decide) ?_
  refine r_iadd dX11_summedUp_19 (w32_id (by omega)) ?_
  refine r_istore dX11_summedUp_20 rfl (by decide) st4 ?_
  refine r_iconst dX11_summedUp_22 (by decide) ?_
  refine r_istore dX11_summedUp_23 rfl (by decide) st5 ?_
  refine r_iconst dX11_summedUp_25 (by decide) ?_
  refine r_istore dX11_summedUp_26 rfl (by decide) st6 ?_
  refine r_aload_n dX11_summedUp_28 rfl (by decide) ?_
  refine r_getr (x := 432) dX11_summedUp_29 flX11_16 sf429 (by decide) (by decide) rfl rfl ?_
  refine r_iload_n dX11_summedUp_32 rfl ?_
  refine r_iconst dX11_summedUp_33 (by decide) ?_
  refine r_iadd dX11_summedUp_34 (w32_id (by omega)) ?_
  refine r_iald dX11_summedUp_35 sf432 (by decide) (by omega) (by omega) (by decide) (by first | assumption | ((repeat (first | (apply rd_ne; · omega) | (apply rd_eq; · omega) | (apply rd_out; · omega) | (apply rd_in; · omega))); first | assumption | rfl)) ?_
  refine r_istore dX11_summedUp_36 rfl (by decide) st7 ?_
  exact V.cm rfl evM_id (V.al (show _ = [(1, 429), (0, t), (0, l), (0, 705 * t + 1 + 4 * l), (0, 705 * t + 97), (0, (rnS (dpF M) (fun v => M 435 v) (M 432) (705 * t + 97) l0 (fun c => M 436 c, fun c => M 437 c, 0, 0) (0 : Nat)).2.2.1), (0, (rnS (dpF M) (fun v => M 435 v) (M 432) (705 * t + 97) l0 (fun c => M 436 c, fun c => M 437 c, 0, 0) (0 : Nat)).2.2.2), (0, l0 + ((0 : Nat) : Int)), (9, 0), (9, 0)] by rw [show l0 + ((0 : Nat) : Int) = l0 by omega]; rfl) (l_summedUp ht hl h0 h1 h2 h3 h14 hG len 0 (by omega)))
/-- what the law l of the text t comes to -/
def smR (M : Me) (t l : Int) : ES := (rnS (dpF M) (fun v => M 435 v) (M 432) (705 * t + 97) (M 432 (705 * t + 1 + 4 * l + 1)) (fun c => M 436 c, fun c => M 437 c, 0, 0) ((M 432 (705 * t + 1 + 4 * l + 2)) - (M 432 (705 * t + 1 + 4 * l + 1))).toNat)
/-- the law l of the text t keeps within the rows -/
def LOK (M : Me) (t l : Int) : Prop := 0 ≤ (M 432 (705 * t + 1 + 4 * l + 1)) ∧ (M 432 (705 * t + 1 + 4 * l + 1)) ≤ (M 432 (705 * t + 1 + 4 * l + 2)) ∧ (M 432 (705 * t + 1 + 4 * l + 2)) ≤ 300 ∧ ∀ j : Nat, j < ((M 432 (705 * t + 1 + 4 * l + 2)) - (M 432 (705 * t + 1 + 4 * l + 1))).toNat → grd (M 432 (705 * t + 97 + 2 * ((M 432 (705 * t + 1 + 4 * l + 1)) + (j : Int)))) (M 432 (705 * t + 97 + 2 * ((M 432 (705 * t + 1 + 4 * l + 1)) + (j : Int)) + 1)) (rnS (dpF M) (fun v => M 435 v) (M 432) (705 * t + 97) (M 432 (705 * t + 1 + 4 * l + 1)) (fun c => M 436 c, fun c => M 437 c, 0, 0) j)
theorem m_summedUp {x y z : Int} {M : Me} {t l : Int} (ht : 0 ≤ t ∧ t < 4) (hl : 0 ≤ l ∧ l < 24) (h14 : 0 ≤ M 430 14 ∧ M 430 14 ≤ 12) (hL : LOK M t l) : Con kX11_summedUp 2 0 0 [(1, 429), (0, t), (0, l)] (Sf x y z) M (Ex (some (2, (smR M t l).1 0)) (Sf x y z) (evM M (smR M t l).1 (smR M t l).2.1)) := by
  obtain ⟨a, b, c, d⟩ := hL
  exact m_summed0 ht hl rfl (by omega) a (by omega) h14 d
theorem l_says {x y z : Int} {M : Me} {t u g o : Int} {cn : Nat} (ht : t < 4) (hcn : 0 ≤ t → M 432 (705 * t) = (cn : Int)) (hc24 : cn ≤ 24) (ho : 0 ≤ o) (ho2 : o < 2147483648) (h14 : 0 ≤ M 430 14 ∧ M 430 14 ≤ 12) (hL : 0 ≤ t → ∀ l : Nat, l < cn → M 432 (705 * t + 1 + 4 * (l : Int)) = u → LOK M t l) (ht0 : 0 ≤ t) : ∀ (m i : Nat), m + i = cn → (∀ q : Nat, q < i → M 432 (705 * t + 1 + 4 * (q : Int)) ≠ u) → V kX11_says 0 0 3 none (fun v9 S9 M9 => S9 = (Sf x y z) ∧ ((t < 0 ∨ ∀ l : Nat, l < cn → M 432 (705 * t + 1 + 4 * (l : Int)) ≠ u) ∧ v9 = some (0, hld g 0 o) ∧ M9 = M ∨ ∃ l : Nat, 0 ≤ t ∧ l < cn ∧ M 432 (705 * t + 1 + 4 * (l : Int)) = u ∧ (∀ q : Nat, q < l → M 432 (705 * t + 1 + 4 * (q : Int)) ≠ u) ∧ v9 = some (0, hld ((smR M t l).1 0) 0 o) ∧ M9 = evM M (smR M t l).1 (smR M t l).2.1)) 3 [(1, 429), (0, t), (0, u), (0, g), (0, o), (0, (i : Int))] [] (Sf x y z) M 0 0 := by
  intro m
  induction m with
  | zero =>
    intro i hi hn
    obtain rfl : i = cn := by omega
    refine r_iload_n dX11_says_3 rfl ?_
    refine r_if_lt (tgt := 63) dX11_says_4 (by decide) (fun h4 => by exfalso; omega) (fun h4 => ?_)
    refine r_iload dX11_says_7 rfl ?_
    refine r_aload_n dX11_says_9 rfl (by decide) ?_
    refine r_getr (x := 432) dX11_says_10 flX11_16 sf429 (by decide) (by decide) rfl rfl ?_
    refine r_sipush dX11_says_13 (by decide) (by decide) ?_
    refine r_iload_n dX11_says_16 rfl ?_
    refine r_imul dX11_says_17 (w32_id (by omega)) ?_
    refine r_iald dX11_says_18 sf432 (by decide) (by omega) (by omega) (by decide) (hcn ht0) ?_
    refine r_icmp_ge (tgt := 63) dX11_says_19 (by decide) (fun h19 => ?_) (fun h19 => by exfalso; omega)
    refine r_iload_n dX11_says_63 rfl ?_
    refine r_i2l dX11_says_64 ?_
    refine r_iconst dX11_says_65 (by decide) ?_
    refine r_iload dX11_says_66 rfl ?_
    refine r_cs3 dX11_says_68 clX11_292 (by first | decide | omega) (Nat.le_of_ble_eq_true rfl) ((c_held (by decide) ho2)) ⟨Nat.zero_le _, Nat.zero_le _⟩ (fun _ => ?_)
    refine r_iret dX11_says_71 rfl ?_
    exact ⟨rfl, Or.inl ⟨Or.inr hn, rfl, rfl⟩⟩
  | succ m ih =>
    intro i hi hn
    refine r_iload_n dX11_says_3 rfl ?_
    refine r_if_lt (tgt := 63) dX11_says_4 (by decide) (fun h4 => by exfalso; omega) (fun h4 => ?_)
    refine r_iload dX11_says_7 rfl ?_
    refine r_aload_n dX11_says_9 rfl (by decide) ?_
    refine r_getr (x := 432) dX11_says_10 flX11_16 sf429 (by decide) (by decide) rfl rfl ?_
    refine r_sipush dX11_says_13 (by decide) (by decide) ?_
    refine r_iload_n dX11_says_16 rfl ?_
    refine r_imul dX11_says_17 (w32_id (by omega)) ?_
    refine r_iald dX11_says_18 sf432 (by decide) (by omega) (by omega) (by decide) (hcn ht0) ?_
    refine r_icmp_ge (tgt := 63) dX11_says_19 (by decide) (fun h19 => by exfalso; omega) (fun h19 => ?_)
    refine r_aload_n dX11_says_22 rfl (by decide) ?_
    refine r_getr (x := 432) dX11_says_23 flX11_16 sf429 (by decide) (by decide) rfl rfl ?_
    refine r_sipush dX11_says_26 (by decide) (by decide) ?_
    refine r_iload_n dX11_says_29 rfl ?_
    refine r_imul dX11_says_30 (w32_id (by omega)) ?_
    refine r_iconst dX11_says_31 (by decide) ?_
    refine r_iadd dX11_says_32 (w32_id (by omega)) ?_
    refine r_iconst dX11_says_33 (by decide) ?_
    refine r_iload dX11_says_34 rfl ?_
    refine r_imul dX11_says_36 (w32_id (by omega)) ?_
    refine r_iadd dX11_says_37 (w32_id (by omega)) ?_
    refine r_iald dX11_says_38 sf432 (by decide) (by omega) (by omega) (by decide) (by first | assumption | ((repeat (first | (apply rd_ne; · omega) | (apply rd_eq; · omega) | (apply rd_out; · omega) | (apply rd_in; · omega))); first | assumption | rfl)) ?_
    refine r_iload_n dX11_says_39 rfl ?_
    refine r_icmp_ne (tgt := 57) dX11_says_40 (by decide) (fun h40 => ?_) (fun h40 => ?_)
    · refine r_iinc dX11_says_57 rfl rfl (by decide) (w32_id (by omega)) st5 ?_
      refine r_goto (tgt := 3) dX11_says_60 (by decide) ?_
      exact ih (i + 1) (by omega) (fun q hq => (Nat.lt_or_ge q i).elim (hn q) (fun h9 => by rw [show q = i by omega]; assumption))
    · refine r_aload_n dX11_says_43 rfl (by decide) ?_
      refine r_iload_n dX11_says_44 rfl ?_
      refine r_iload dX11_says_45 rfl ?_
      refine r_cv2 dX11_says_47 clX11_289 sf429 (by decide) (by decide) rfl (by first | decide | omega) (Nat.le_of_ble_eq_true rfl) ((m_summedUp (by omega) (by omega) h14 (hL ht0 i (by omega) (by omega)))) ⟨Nat.zero_le _, Nat.zero_le _⟩ (fun _ => ?_)
      refine r_iconst dX11_says_50 (by decide) ?_
      refine r_iload dX11_says_51 rfl ?_
      refine r_cs3 dX11_says_53 clX11_292 (by first | decide | omega) (Nat.le_of_ble_eq_true rfl) ((c_held (by decide) ho2)) ⟨Nat.zero_le _, Nat.zero_le _⟩ (fun _ => ?_)
      refine r_iret dX11_says_56 rfl ?_
      exact ⟨rfl, Or.inr ⟨i, ht0, by omega, by omega, hn, rfl, rfl⟩⟩
theorem m_says {x y z : Int} {M : Me} {t u g o : Int} {cn : Nat} (ht : t < 4) (hcn : 0 ≤ t → M 432 (705 * t) = (cn : Int)) (hc24 : cn ≤ 24) (ho : 0 ≤ o) (ho2 : o < 2147483648) (h14 : 0 ≤ M 430 14 ∧ M 430 14 ≤ 12) (hL : 0 ≤ t → ∀ l : Nat, l < cn → M 432 (705 * t + 1 + 4 * (l : Int)) = u → LOK M t l) : Con kX11_says 3 0 0 [(1, 429), (0, t), (0, u), (0, g), (0, o)] (Sf x y z) M (fun v9 S9 M9 => S9 = (Sf x y z) ∧ ((t < 0 ∨ ∀ l : Nat, l < cn → M 432 (705 * t + 1 + 4 * (l : Int)) ≠ u) ∧ v9 = some (0, hld g 0 o) ∧ M9 = M ∨ ∃ l : Nat, 0 ≤ t ∧ l < cn ∧ M 432 (705 * t + 1 + 4 * (l : Int)) = u ∧ (∀ q : Nat, q < l → M 432 (705 * t + 1 + 4 * (q : Int)) ≠ u) ∧ v9 = some (0, hld ((smR M t l).1 0) 0 o) ∧ M9 = evM M (smR M t l).1 (smR M t l).2.1)) := by
  refine Con.ofV (al := [(1, 429), (0, t), (0, u), (0, g), (0, o), (9, 0)]) 1 (by decide) (Nat.le_of_ble_eq_true rfl) rfl ?_
  refine r_iconst dX11_says_0 (by decide) ?_
  refine r_istore dX11_says_1 rfl (by decide) st5 ?_
  by_cases ht0 : 0 ≤ t
  · exact l_says ht hcn hc24 ho ho2 h14 hL ht0 cn 0 (by omega) (fun q hq => absurd hq (by omega))
  · refine r_iload_n dX11_says_3 rfl ?_
    refine r_if_lt (tgt := 63) dX11_says_4 (by decide) (fun h4 => ?_) (fun h4 => by exfalso; omega)
    refine r_iload_n dX11_says_63 rfl ?_
    refine r_i2l dX11_says_64 ?_
    refine r_iconst dX11_says_65 (by decide) ?_
    refine r_iload dX11_says_66 rfl ?_
    refine r_cs3 dX11_says_68 clX11_292 (by first | decide | omega) (Nat.le_of_ble_eq_true rfl) ((c_held (by decide) ho2)) ⟨Nat.zero_le _, Nat.zero_le _⟩ (fun _ => ?_)
    refine r_iret dX11_says_71 rfl ?_
    exact ⟨rfl, Or.inl ⟨Or.inl (by omega), rfl, rfl⟩⟩
