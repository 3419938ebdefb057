def evM (M : Me) (X Z : Int → Int) : Me := row1 (row1 M 436 330 X) 437 330 Z
theorem evM_o {M : Me} {X Z : Int → Int} {a j : Int} (h : ¬ (a = 436 ∧ 0 ≤ j ∧ j < 330) ∧ ¬ (a = 437 ∧ 0 ≤ j ∧ j < 330)) : evM M X Z a j = M a j := (row1_o h.2).trans (row1_o h.1)
theorem rd_evX {M : Me} {X Z : Int → Int} {a j z : Int} (h : a = 436 ∧ 0 ≤ j ∧ j < 330) (k : X j = z) : evM M X Z a j = z := rd_r0 (by omega) (rd_rX h k)
theorem rd_evY {M : Me} {X Z : Int → Int} {a j z : Int} (h : a = 437 ∧ 0 ≤ j ∧ j < 330) (k : Z j = z) : evM M X Z a j = z := rd_rX h k
theorem evM_c {M : Me} {X X' Z Z' : Int → Int} (h : ∀ c, 0 ≤ c → c < 330 → X c = X' c) (h' : ∀ c, 0 ≤ c → c < 330 → Z c = Z' c) : evM M X Z = evM M X' Z' := by
  unfold evM
  rw [row1_c h, row1_c h']
theorem evM_id {M : Me} : M = evM M (fun c => M 436 c) (fun c => M 437 c) := by
  unfold evM
  rw [← row1_id, ← row1_id]
theorem evM_X {M : Me} {y v : Int} {X X' Z : Int → Int} (hy : 0 ≤ y ∧ y < 330) (h : ∀ c, 0 ≤ c → c < 330 → X' c = if c = y then v else X c) : up (evM M X Z) 436 y v = evM M X' Z := by
  funext a j
  by_cases h1 : a = 436 ∧ j = y
  · rw [up_eq h1]; exact (rd_evX (by omega) (by rw [h j (by omega) (by omega), if_pos h1.2])).symm
  · rw [up_ne h1]
    by_cases h2 : a = 436 ∧ 0 ≤ j ∧ j < 330
    · exact (rd_evX h2 rfl).trans (rd_evX h2 (by rw [h j h2.2.1 h2.2.2, if_neg (fun q => h1 ⟨h2.1, q⟩)])).symm
    · by_cases h3 : a = 437 ∧ 0 ≤ j ∧ j < 330
      · exact (rd_evY h3 rfl).trans (rd_evY h3 rfl).symm
      · exact (evM_o ⟨h2, h3⟩).trans (evM_o ⟨h2, h3⟩).symm
theorem evM_Y {M : Me} {y v : Int} {X Z Z' : Int → Int} (hy : 0 ≤ y ∧ y < 330) (h : ∀ c, 0 ≤ c → c < 330 → Z' c = if c = y then v else Z c) : up (evM M X Z) 437 y v = evM M X Z' := row1_up hy h
theorem evM_row {M : Me} {X Z : Int → Int} : evM M X Z 430 = M 430 := by funext j; exact evM_o (by omega)
theorem wk8 {a0 a1 a2 a3 a4 a5 a6 a7 v : AV} {tl : List AV} {k : MI} {c1 c2 dd : Nat} {xs : Option (List Int)} {Q : Option AV → Sh → Me → Prop} {pc : Nat} {st : List AV} {S : Sh} {M : Me} {n1 n2 : Nat} (k9 : V k c1 c2 dd xs Q pc (a0 :: a1 :: a2 :: a3 :: a4 :: a5 :: a6 :: a7 :: (9, 0) :: tl) st S M n1 n2) : V k c1 c2 dd xs Q pc (a0 :: a1 :: a2 :: a3 :: a4 :: a5 :: a6 :: a7 :: v :: tl) st S M n1 n2 := V.wkp [a0, a1, a2, a3, a4, a5, a6, a7] tl v k9
theorem wk9 {a0 a1 a2 a3 a4 a5 a6 a7 a8 v : AV} {tl : List AV} {k : MI} {c1 c2 dd : Nat} {xs : Option (List Int)} {Q : Option AV → Sh → Me → Prop} {pc : Nat} {st : List AV} {S : Sh} {M : Me} {n1 n2 : Nat} (k9 : V k c1 c2 dd xs Q pc (a0 :: a1 :: a2 :: a3 :: a4 :: a5 :: a6 :: a7 :: a8 :: (9, 0) :: tl) st S M n1 n2) : V k c1 c2 dd xs Q pc (a0 :: a1 :: a2 :: a3 :: a4 :: a5 :: a6 :: a7 :: a8 :: v :: tl) st S M n1 n2 := V.wkp [a0, a1, a2, a3, a4, a5, a6, a7, a8] tl v k9
def dpF (M : Me) (v : Int) : Int := if 0 ≤ v ∧ v < M 430 14 then M 430 (15 + 7 * v + 0) else 0
def upf (X : Int → Int) (i v : Int) : Int → Int := fun c => if c = i then v else X c
abbrev ES := (Int → Int) × (Int → Int) × Int × Int
/-- one step of what is summed up: the values, the truths, how many of each -/
def stp (dp nm : Int → Int) (k v : Int) (s : ES) : ES :=
  if k ≤ 1 then (upf s.1 s.2.2.1 (if k = 0 then v else nm v), s.2.1, s.2.2.1 + 1, s.2.2.2)
  else if k = 4 then (if s.2.1 (s.2.2.2 - 1) = 0 then upf s.1 (s.2.2.1 - 2) (s.1 (s.2.2.1 - 1)) else s.1, s.2.1, s.2.2.1 - 1, s.2.2.2 - 1)
  else if k ≤ 5 then (upf s.1 (s.2.2.1 - 1) (if k = 5 then -(s.1 (s.2.2.1 - 1)) else if k = 3 then dp (s.1 (s.2.2.1 - 1)) else trd (s.1 (s.2.2.1 - 1))), s.2.1, s.2.2.1, s.2.2.2)
  else if k < 10 then (upf s.1 (s.2.2.1 - 2) (two k (s.1 (s.2.2.1 - 2)) (s.1 (s.2.2.1 - 1))), s.2.1, s.2.2.1 - 1, s.2.2.2)
  else if k < 20 then (s.1, upf s.2.1 s.2.2.2 (askd k (s.1 (s.2.2.1 - 2)) (s.1 (s.2.2.1 - 1))), s.2.2.1 - 2, s.2.2.2 + 1)
  else if k = 20 then (s.1, upf s.2.1 (s.2.2.2 - 1) (bi (s.2.1 (s.2.2.2 - 1) = 0)), s.2.2.1, s.2.2.2)
  else (s.1, upf s.2.1 (s.2.2.2 - 2) (joi k (s.2.1 (s.2.2.2 - 2)) (s.2.1 (s.2.2.2 - 1))), s.2.2.1, s.2.2.2 - 1)
/-- a step that keeps within the rows -/
def grd (k v : Int) (s : ES) : Prop := 0 ≤ k ∧ 0 ≤ s.2.2.1 ∧ s.2.2.1 ≤ 330 ∧ 0 ≤ s.2.2.2 ∧ s.2.2.2 ≤ 330 ∧ (∀ c : Int, 0 ≤ c → c < s.2.2.1 → -10000000 < s.1 c ∧ s.1 c < 10000000) ∧ (k ≤ 1 → s.2.2.1 < 330) ∧ (k = 1 → 0 ≤ v ∧ v < 9) ∧ (k = 4 → 2 ≤ s.2.2.1 ∧ 1 ≤ s.2.2.2) ∧ (2 ≤ k → k ≤ 5 → 1 ≤ s.2.2.1) ∧ (6 ≤ k → k < 20 → 2 ≤ s.2.2.1) ∧ (10 ≤ k → k < 20 → s.2.2.2 < 330) ∧ (k = 20 → 1 ≤ s.2.2.2) ∧ (21 ≤ k → 2 ≤ s.2.2.2)
/-- the code from lo, j steps on -/
def rnS (dp nm T : Int → Int) (x0 : Int) (s : ES) : Nat → ES
  | 0 => s
  | j + 1 => stp dp nm (T (x0 + 2 * (j : Int))) (T (x0 + 2 * (j : Int) + 1)) (rnS dp nm T x0 s j)
theorem askd_01 {o v u : Int} : 0 ≤ askd o v u ∧ askd o v u ≤ 1 := by unfold askd bi; (repeat' split) <;> decide
theorem joi_01 {o a b : Int} : 0 ≤ joi o a b ∧ joi o a b ≤ 1 := by unfold joi bi; (repeat' split) <;> decide
theorem c_deepOf {x y z : Int} {M : Me} {v : Int} (h14 : 0 ≤ M 430 14 ∧ M 430 14 ≤ 12) : Con kX11_deepOf 1 0 0 [(1, 429), (2, v)] (Sf x y z) M (Ex (some (2, dpF M v)) (Sf x y z) M) := by
  refine Con.ofV (al := [(1, 429), (2, v), (9, 0)]) 0 (by decide) (Nat.le_of_ble_eq_true rfl) rfl ?_
  refine r_lload_n dX11_deepOf_0 rfl ?_
  refine r_lconst (x := 0) dX11_deepOf_1 rfl (by decide) ?_
  refine r_lcmp dX11_deepOf_2 ?_
  refine r_if_lt (tgt := 30) dX11_deepOf_3 (by decide) (fun h3 => ?_) (fun h3 => ?_)
  · replace h3 := lc_lt.mp h3
    refine r_lconst (x := 0) dX11_deepOf_30 rfl (by decide) ?_
    refine r_lret dX11_deepOf_31 rfl ?_
    first | exact ⟨by unfold dpF; rw [if_pos (by omega)], rfl, rfl⟩ | exact ⟨by unfold dpF; rw [if_neg (by omega)], rfl, rfl⟩
  · replace h3 := lc_ge.mp h3
    refine r_lload_n dX11_deepOf_6 rfl ?_
    refine r_aload_n dX11_deepOf_7 rfl (by decide) ?_
    refine r_getr (x := 430) dX11_deepOf_8 flX11_7 sf429 (by decide) (by decide) rfl rfl ?_
    refine r_bipush dX11_deepOf_11 (by decide) (by decide) ?_
    refine r_iald dX11_deepOf_13 sf430 (by decide) (by omega) (by omega) (by decide) (by first | assumption | ((repeat (first | (apply rd_ne; · omega) | (apply rd_eq; · omega) | (apply rd_out; · omega) | (apply rd_in; · omega))); first | assumption | rfl)) ?_
    refine r_i2l dX11_deepOf_14 ?_
    refine r_lcmp dX11_deepOf_15 ?_
    refine r_if_ge (tgt := 30) dX11_deepOf_16 (by decide) (fun h16 => ?_) (fun h16 => ?_)
    · replace h16 := lc_ge.mp h16
      refine r_lconst (x := 0) dX11_deepOf_30 rfl (by decide) ?_
      refine r_lret dX11_deepOf_31 rfl ?_
      first | exact ⟨by unfold dpF; rw [if_pos (by omega)], rfl, rfl⟩ | exact ⟨by unfold dpF; rw [if_neg (by omega)], rfl, rfl⟩
    · replace h16 := lc_lt.mp h16
      refine r_aload_n dX11_deepOf_19 rfl (by decide) ?_
      refine r_lload_n dX11_deepOf_20 rfl ?_
      refine r_l2i dX11_deepOf_21 (w32_id (by omega)) ?_
      refine r_iconst dX11_deepOf_22 (by decide) ?_
      refine r_cv2 dX11_deepOf_23 clX11_66 sf429 (by decide) (by decide) rfl (by first | decide | omega) (Nat.le_of_ble_eq_true rfl) ((c_get (by omega) (by decide))) ⟨Nat.zero_le _, Nat.zero_le _⟩ (fun _ => ?_)
      refine r_i2l dX11_deepOf_26 ?_
      refine r_goto (tgt := 31) dX11_deepOf_27 (by decide) ?_
      refine r_lret dX11_deepOf_31 rfl ?_
      first | exact ⟨by unfold dpF; rw [if_pos (by omega)], rfl, rfl⟩ | exact ⟨by unfold dpF; rw [if_neg (by omega)], rfl, rfl⟩
