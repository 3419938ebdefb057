theorem lc_lt {x y : Int} : cmp64 x y < 0 ↔ x < y := by unfold cmp64; split <;> (try split) <;> omega
theorem lc_le {x y : Int} : cmp64 x y ≤ 0 ↔ x ≤ y := by unfold cmp64; split <;> (try split) <;> omega
theorem lc_gt {x y : Int} : 0 < cmp64 x y ↔ y < x := by unfold cmp64; split <;> (try split) <;> omega
theorem lc_ge {x y : Int} : 0 ≤ cmp64 x y ↔ y ≤ x := by unfold cmp64; split <;> (try split) <;> omega
theorem lc_eq {x y : Int} : cmp64 x y = 0 ↔ x = y := by unfold cmp64; split <;> (try split) <;> omega
theorem lc_ne {x y : Int} : cmp64 x y ≠ 0 ↔ x ≠ y := by unfold cmp64; split <;> (try split) <;> omega
def hld (v a b : Int) : Int := if v < a then a else if b < v then b else v
def clp (v : Int) : Int := if 1000000 < v then 1000000 else if v < -1000000 then -1000000 else v
theorem clp_b {v : Int} : -1000000 ≤ clp v ∧ clp v ≤ 1000000 := by unfold clp; split <;> (try split) <;> omega
theorem hld_b {v a b : Int} (h : a ≤ b) : a ≤ hld v a b ∧ hld v a b ≤ b := by unfold hld; split <;> (try split) <;> omega
theorem c_held {S : Sh} {M : Me} {v a b : Int} (ha : -2147483648 ≤ a) (hb : b < 2147483648) : Con kX11_held 0 0 0 [(2, v), (0, a), (0, b)] S M (Ex (some (0, hld v a b)) S M) := by
  refine Con.ofV (al := [(2, v), (9, 0), (0, a), (0, b)]) 0 (by decide) (Nat.le_of_ble_eq_true rfl) rfl ?_
  refine r_lload_n dX11_held_0 rfl ?_
  refine r_iload_n dX11_held_1 rfl ?_
  refine r_i2l dX11_held_2 ?_
  refine r_lcmp dX11_held_3 ?_
  refine r_if_ge (tgt := 11) dX11_held_4 (by decide) (fun h4 => ?_) (fun h4 => ?_)
  · replace h4 := lc_ge.mp h4
    refine r_lload_n dX11_held_11 rfl ?_
    refine r_iload_n dX11_held_12 rfl ?_
    refine r_i2l dX11_held_13 ?_
    refine r_lcmp dX11_held_14 ?_
    refine r_if_le (tgt := 22) dX11_held_15 (by decide) (fun h15 => ?_) (fun h15 => ?_)
    · replace h15 := lc_le.mp h15
      refine r_lload_n dX11_held_22 rfl ?_
      refine r_l2i dX11_held_23 (w32_id (by omega)) ?_
      refine r_iret dX11_held_24 rfl ?_
      exact ⟨by unfold hld; first | rw [if_pos (by omega)] | rw [if_neg (by omega), if_pos (by omega)] | rw [if_neg (by omega), if_neg (by omega)], rfl, rfl⟩
    · replace h15 := lc_gt.mp h15
      refine r_iload_n dX11_held_18 rfl ?_
      refine r_goto (tgt := 24) dX11_held_19 (by decide) ?_
      refine r_iret dX11_held_24 rfl ?_
      exact ⟨by unfold hld; first | rw [if_pos (by omega)] | rw [if_neg (by omega), if_pos (by omega)] | rw [if_neg (by omega), if_neg (by omega)], rfl, rfl⟩
  · replace h4 := lc_lt.mp h4
    refine r_iload_n dX11_held_7 rfl ?_
    refine r_goto (tgt := 24) dX11_held_8 (by decide) ?_
    refine r_iret dX11_held_24 rfl ?_
    exact ⟨by unfold hld; first | rw [if_pos (by omega)] | rw [if_neg (by omega), if_pos (by omega)] | rw [if_neg (by omega), if_neg (by omega)], rfl, rfl⟩
theorem c_clip {S : Sh} {M : Me} {v : Int} : Con kX11_clip 0 0 0 [(2, v)] S M (Ex (some (2, clp v)) S M) := by
  refine Con.ofV (al := [(2, v), (9, 0)]) 0 (by decide) (Nat.le_of_ble_eq_true rfl) rfl ?_
  refine r_lload_n dX11_clip_0 rfl ?_
  refine r_ldc2 (x := 1000000) dX11_clip_1 ctX11_261 (by decide) ?_
  refine r_lcmp dX11_clip_4 ?_
  refine r_if_le (tgt := 14) dX11_clip_5 (by decide) (fun h5 => ?_) (fun h5 => ?_)
  · replace h5 := lc_le.mp h5
    refine r_lload_n dX11_clip_14 rfl ?_
    refine r_ldc2 (x := -1000000) dX11_clip_15 ctX11_263 (by decide) ?_
    refine r_lcmp dX11_clip_18 ?_
    refine r_if_ge (tgt := 28) dX11_clip_19 (by decide) (fun h19 => ?_) (fun h19 => ?_)
    · replace h19 := lc_ge.mp h19
      refine r_lload_n dX11_clip_28 rfl ?_
      refine r_lret dX11_clip_29 rfl ?_
      exact ⟨by unfold clp; first | rw [if_pos (by omega)] | rw [if_neg (by omega), if_pos (by omega)] | rw [if_neg (by omega), if_neg (by omega)], rfl, rfl⟩
    · replace h19 := lc_lt.mp h19
      refine r_ldc2 (x := -1000000) dX11_clip_22 ctX11_263 (by decide) ?_
      refine r_goto (tgt := 29) dX11_clip_25 (by decide) ?_
      refine r_lret dX11_clip_29 rfl ?_
      exact ⟨by unfold clp; first | rw [if_pos (by omega)] | rw [if_neg (by omega), if_pos (by omega)] | rw [if_neg (by omega), if_neg (by omega)], rfl, rfl⟩
  · replace h5 := lc_gt.mp h5
    refine r_ldc2 (x := 1000000) dX11_clip_8 ctX11_261 (by decide) ?_
    refine r_goto (tgt := 29) dX11_clip_11 (by decide) ?_
    refine r_lret dX11_clip_29 rfl ?_
    exact ⟨by unfold clp; first | rw [if_pos (by omega)] | rw [if_neg (by omega), if_pos (by omega)] | rw [if_neg (by omega), if_neg (by omega)], rfl, rfl⟩
def ten : Nat → Int
  | 0 => 1
  | f + 1 => 10 * ten f
theorem ten_b : ∀ g : Nat, g ≤ 16 → 1 ≤ ten g ∧ ten g ≤ 10000000000000000 := by decide
def trn : Nat → Int → Int → Int
  | 0, _, r => r
  | f + 1, u, r => if 0 < u then trn f (u / 10) (10 * r + u % 10) else r
theorem trn_0 : ∀ (f : Nat) (r : Int), trn f 0 r = r := by
  intro f
  cases f with
  | zero => intro r; rfl
  | succ f => intro r; exact if_neg (by omega)
theorem trn_b : ∀ (f : Nat) (g : Nat) (u r : Int), 0 ≤ u → u < ten f → 0 ≤ r → r < ten g → 0 ≤ trn f u r ∧ trn f u r < ten (g + f) := by
  intro f
  induction f with
  | zero => intro g u r h1 h2 h3 h4; exact ⟨h3, h4⟩
  | succ f ih =>
    intro g u r h1 h2 h3 h4
    have e : ten (f + 1) = 10 * ten f := rfl
    have e2 : ten (g + 1) = 10 * ten g := rfl
    unfold trn
    split
    · have := ih (g + 1) (u / 10) (10 * r + u % 10) (by omega) (by omega) (by omega) (by omega)
      rw [show g + (f + 1) = g + 1 + f by omega]
      exact this
    · have h9 : ∀ f : Nat, ten g ≤ ten (g + f) := by
        intro f
        induction f with
        | zero => exact Int.le_refl _
        | succ f ih2 => have e3 : ten (g + (f + 1)) = 10 * ten (g + f) := rfl; omega
      have := h9 (f + 1)
      omega
def trd (v : Int) : Int := trn 8 (if v < 0 then -v else v) 0
theorem trd_b {v : Int} (h : -10000000 < v ∧ v < 10000000) : 0 ≤ trd v ∧ trd v < 10000000 := by
  have e : ten 7 = 10000000 := rfl
  have h2 : ∀ u : Int, 0 ≤ u → u < ten 7 → trn 8 u 0 = trn 7 u 0 := by
    have : ∀ (f : Nat) (u r : Int), 0 ≤ u → u < ten f → trn (f + 1) u r = trn f u r := by
      intro f
      induction f with
      | zero =>
        intro u r h1 h2
        have h2 : u < 1 := h2
        unfold trn
        exact if_neg (by omega)
      | succ f ih =>
        intro u r h1 h2
        have e : ten (f + 1) = 10 * ten f := rfl
        unfold trn
        split
        · exact ih _ _ (by omega) (by omega)
        · rfl
    intro u h1 h2
    exact this 7 u 0 h1 h2
  unfold trd
  split
  · rw [h2 _ (by omega) (by omega)]
    exact trn_b 7 0 _ 0 (by omega) (by omega) (by omega) (by decide)
  · rw [h2 _ (by omega) (by omega)]
    exact trn_b 7 0 _ 0 (by omega) (by omega) (by omega) (by decide)
theorem tdv {x y : Int} (h0 : 0 ≤ x) (h1 : x < 9223372036854775808) (hy : 0 < y) : w64 (x.tdiv y) = x / y := by
  rw [Int.tdiv_eq_ediv_of_nonneg h0]
  have h2 : x / y ≤ x := Int.ediv_le_self y h0
  have h3 : 0 ≤ x / y := Int.ediv_nonneg h0 (by omega)
  exact w64_id (by omega)
theorem l_turned {S : Sh} {M : Me} {v R : Int} : ∀ (f g : Nat) (u r : Int), f + g = 12 → 0 ≤ u → u < ten f → 0 ≤ r → r < ten g → trn f u r = R → V kX11_turned 0 0 0 none (Ex (some (2, R)) S M) 16 [(2, v), (9, 0), (2, r), (9, 0), (2, u), (9, 0)] [] S M 0 0 := by
  intro f
  induction f with
  | zero =>
    intro g u r hg h1 h2 h3 h4 hR
    have h2 : u < 1 := h2
    refine r_lload dX11_turned_16 rfl ?_
    refine r_lconst (x := 0) dX11_turned_18 rfl (by decide) ?_
    refine r_lcmp dX11_turned_19 ?_
    refine r_if_le (tgt := 47) dX11_turned_20 (by decide) (fun h20 => ?_) (fun h20 => by exfalso; replace h20 := lc_gt.mp h20; omega)
    replace h20 := lc_le.mp h20
    refine r_lload_n dX11_turned_47 rfl ?_
    refine r_lret dX11_turned_48 rfl ?_
    exact ⟨by rw [← hR]; rfl, rfl, rfl⟩
  | succ f ih =>
    intro g u r hg h1 h2 h3 h4 hR
    have e : ten (f + 1) = 10 * ten f := rfl
    have e2 : ten (g + 1) = 10 * ten g := rfl
    have hb := ten_b f (by omega)
    have hb2 := ten_b g (by omega)
    refine r_lload dX11_turned_16 rfl ?_
    refine r_lconst (x := 0) dX11_turned_18 rfl (by decide) ?_
    refine r_lcmp dX11_turned_19 ?_
    refine r_if_le (tgt := 47) dX11_turned_20 (by decide) (fun h20 => ?_) (fun h20 => ?_)
    · replace h20 := lc_le.mp h20
      refine r_lload_n dX11_turned_47 rfl ?_
      refine r_lret dX11_turned_48 rfl ?_
      exact ⟨by rw [← hR]; exact congrArg (fun z => some (2, z)) (if_neg (by omega)).symm, rfl, rfl⟩
    · replace h20 := lc_gt.mp h20
      refine r_ldc2 (x := 10) dX11_turned_23 ctX11_269 (by decide) ?_
      refine r_lload_n dX11_turned_26 rfl ?_
      refine r_lmul dX11_turned_27 (w64_id (by omega)) ?_
      refine r_lload dX11_turned_28 rfl ?_
      refine r_ldc2 (x := 10) dX11_turned_30 ctX11_269 (by decide) ?_
      refine r_lrem dX11_turned_33 (by omega) (rmn (by omega)) ?_
      refine r_ladd dX11_turned_34 (w64_id (by omega)) ?_
      refine r_lstore_n dX11_turned_35 rfl (by decide) sl2 ?_
      refine r_lload dX11_turned_36 rfl ?_
      refine r_ldc2 (x := 10) dX11_turned_38 ctX11_269 (by decide) ?_
      refine r_ldiv dX11_turned_41 (by omega) (tdv (by omega) (by omega) (by decide)) ?_
      refine r_lstore dX11_turned_42 rfl (by decide) sl4 ?_
      refine r_goto (tgt := 16) dX11_turned_44 (by decide) ?_
      exact ih (g + 1) _ _ (by omega) (by omega) (by omega) (by omega) (by omega) ((if_pos (by omega)).symm.trans hR)
theorem c_turned {S : Sh} {M : Me} {v : Int} (hv : -10000000 < v ∧ v < 10000000) : Con kX11_turned 0 0 0 [(2, v)] S M (Ex (some (2, trd v)) S M) := by
  refine Con.ofV (al := [(2, v), (9, 0), (9, 0), (9, 0), (9, 0), (9, 0)]) 4 (by decide) (Nat.le_of_ble_eq_true rfl) rfl ?_
  refine r_lconst (x := 0) dX11_turned_0 rfl (by decide) ?_
  refine r_lstore_n dX11_turned_1 rfl (by decide) sl2 ?_
  refine r_lload_n dX11_turned_2 rfl ?_
  refine r_lconst (x := 0) dX11_turned_3 rfl (by decide) ?_
  refine r_lcmp dX11_turned_4 ?_
  refine r_if_ge (tgt := 13) dX11_turned_5 (by decide) (fun h5 => ?_) (fun h5 => ?_)
  · replace h5 := lc_ge.mp h5
    refine r_lload_n dX11_turned_13 rfl ?_
    refine r_lstore dX11_turned_14 rfl (by decide) sl4 ?_
    have e : ten 8 = 100000000 := rfl
    exact l_turned 8 4 _ _ (by omega) (by omega) (by omega) (by decide) (by decide) (by unfold trd; first | rw [if_pos (by omega)] | rw [if_neg (by omega)])
  · replace h5 := lc_lt.mp h5
    refine r_lload_n dX11_turned_8 rfl ?_
    refine r_lneg dX11_turned_9 (w64_id (by omega)) ?_
    refine r_goto (tgt := 14) dX11_turned_10 (by decide) ?_
    refine r_lstore dX11_turned_14 rfl (by decide) sl4 ?_
    have e : ten 8 = 100000000 := rfl
    exact l_turned 8 4 _ _ (by omega) (by omega) (by omega) (by decide) (by decide) (by unfold trd; first | rw [if_pos (by omega)] | rw [if_neg (by omega)])
def two (o v u : Int) : Int := clp (if o = 6 then v + u else if o = 7 then v - u else if o = 8 then v * u else if u = 0 then 0 else v.tdiv u)
def askd (o v u : Int) : Int := if o = 10 then bi (v < u) else if o = 11 then bi (v ≤ u) else if o = 12 then bi (u < v) else if o = 13 then bi (u ≤ v) else if o = 14 then bi (v = u) else bi (v ≠ u)
def joi (o a b : Int) : Int := if o = 21 then bi (a ≠ 0 ∧ b ≠ 0) else bi (a ≠ 0 ∨ b ≠ 0)
theorem mb64 {a b : Int} (ha : -100000000 ≤ a ∧ a ≤ 100000000) (hb : -100000000 ≤ b ∧ b ≤ 100000000) : -9223372036854775808 ≤ a * b ∧ a * b < 9223372036854775808 := by
  have h : (a * b).natAbs ≤ 100000000 * 100000000 := by
    rw [Int.natAbs_mul]
    exact Nat.mul_le_mul (by omega) (by omega)
  omega
theorem db64 {a b : Int} (ha : -100000000 ≤ a ∧ a ≤ 100000000) : w64 (a.tdiv b) = a.tdiv b := by
  have h : (a.tdiv b).natAbs ≤ a.natAbs := by
    rw [Int.natAbs_tdiv]
    exact Nat.div_le_self _ _
  exact w64_id (by omega)
theorem c_two {S : Sh} {M : Me} {o v u : Int} (hv : -10000000 < v ∧ v < 10000000) (hu : -10000000 < u ∧ u < 10000000) : Con kX11_two 1 0 0 [(0, o), (2, v), (2, u)] S M (Ex (some (2, two o v u)) S M) := by
  refine Con.ofV (al := [(0, o), (2, v), (9, 0), (2, u), (9, 0)]) 0 (by decide) (Nat.le_of_ble_eq_true rfl) rfl ?_
  refine r_iload_n dX11_two_0 rfl ?_
  rcases (show (o < 6 ∨ 8 < o) ∨ o = 6 ∨ o = 7 ∨ o = 8 by omega) with hsw | hsw | hsw | hsw
  · refine r_tabOut (tgt := 49) dX11_two_1 hsw (by decide) ?_
    refine r_lload_n dX11_two_49 rfl ?_
    refine r_lconst (x := 0) dX11_two_50 rfl (by decide) ?_
    refine r_lcmp dX11_two_51 ?_
    refine r_if_ne (tgt := 59) dX11_two_52 (by decide) (fun h52 => ?_) (fun h52 => ?_)
    · replace h52 := lc_ne.mp h52
      refine r_lload_n dX11_two_59 rfl ?_
      refine r_lload_n dX11_two_60 rfl ?_
      refine r_ldiv dX11_two_61 (by omega) (db64 (by omega)) ?_
      refine r_cs1 dX11_two_62 clX11_265 (by first | decide | omega) (Nat.le_of_ble_eq_true rfl) (c_clip) ⟨Nat.zero_le _, Nat.zero_le _⟩ (fun _ => ?_)
      refine r_lret dX11_two_65 rfl ?_
      exact ⟨by unfold two; first | (rw [if_pos (by omega)]; done) | (rw [if_neg (by omega), if_pos (by omega)]; done) | (rw [if_neg (by omega), if_neg (by omega), if_pos (by omega)]; done) | (rw [if_neg (by omega), if_neg (by omega), if_neg (by omega), if_pos (by omega)]; rfl) | (rw [if_neg (by omega), if_neg (by omega), if_neg (by omega), if_neg (by omega)]; done), rfl, rfl⟩
    · replace h52 := lc_eq.mp h52
      refine r_lconst (x := 0) dX11_two_55 rfl (by decide) ?_
      refine r_goto (tgt := 65) dX11_two_56 (by decide) ?_
      refine r_lret dX11_two_65 rfl ?_
      exact ⟨by unfold two; first | (rw [if_pos (by omega)]; done) | (rw [if_neg (by omega), if_pos (by omega)]; done) | (rw [if_neg (by omega), if_neg (by omega), if_pos (by omega)]; done) | (rw [if_neg (by omega), if_neg (by omega), if_neg (by omega), if_pos (by omega)]; rfl) | (rw [if_neg (by omega), if_neg (by omega), if_neg (by omega), if_neg (by omega)]; done), rfl, rfl⟩
  · refine r_tabEq (tgt := 28) dX11_two_1 hsw (by decide) (by decide) rfl (by decide) ?_
    refine r_lload_n dX11_two_28 rfl ?_
    refine r_lload_n dX11_two_29 rfl ?_
    refine r_ladd dX11_two_30 (w64_id (by omega)) ?_
    refine r_cs1 dX11_two_31 clX11_265 (by first | decide | omega) (Nat.le_of_ble_eq_true rfl) (c_clip) ⟨Nat.zero_le _, Nat.zero_le _⟩ (fun _ => ?_)
    refine r_lret dX11_two_34 rfl ?_
    exact ⟨by unfold two; first | (rw [if_pos (by omega)]; done) | (rw [if_neg (by omega), if_pos (by omega)]; done) | (rw [if_neg (by omega), if_neg (by omega), if_pos (by omega)]; done) | (rw [if_neg (by omega), if_neg (by omega), if_neg (by omega), if_pos (by omega)]; rfl) | (rw [if_neg (by omega), if_neg (by omega), if_neg (by omega), if_neg (by omega)]; done), rfl, rfl⟩
  · refine r_tabEq (tgt := 35) dX11_two_1 hsw (by decide) (by decide) rfl (by decide) ?_
    refine r_lload_n dX11_two_35 rfl ?_
    refine r_lload_n dX11_two_36 rfl ?_
    refine r_lsub dX11_two_37 (w64_id (by omega)) ?_
    refine r_cs1 dX11_two_38 clX11_265 (by first | decide | omega) (Nat.le_of_ble_eq_true rfl) (c_clip) ⟨Nat.zero_le _, Nat.zero_le _⟩ (fun _ => ?_)
    refine r_lret dX11_two_41 rfl ?_
    exact ⟨by unfold two; first | (rw [if_pos (by omega)]; done) | (rw [if_neg (by omega), if_pos (by omega)]; done) | (rw [if_neg (by omega), if_neg (by omega), if_pos (by omega)]; done) | (rw [if_neg (by omega), if_neg (by omega), if_neg (by omega), if_pos (by omega)]; rfl) | (rw [if_neg (by omega), if_neg (by omega), if_neg (by omega), if_neg (by omega)]; done), rfl, rfl⟩
  · refine r_tabEq (tgt := 42) dX11_two_1 hsw (by decide) (by decide) rfl (by decide) ?_
    refine r_lload_n dX11_two_42 rfl ?_
    refine r_lload_n dX11_two_43 rfl ?_
    refine r_lmul dX11_two_44 (w64_id (mb64 (by omega) (by omega))) ?_
    refine r_cs1 dX11_two_45 clX11_265 (by first | decide | omega) (Nat.le_of_ble_eq_true rfl) (c_clip) ⟨Nat.zero_le _, Nat.zero_le _⟩ (fun _ => ?_)
    refine r_lret dX11_two_48 rfl ?_
    exact ⟨by unfold two; first | (rw [if_pos (by omega)]; done) | (rw [if_neg (by omega), if_pos (by omega)]; done) | (rw [if_neg (by omega), if_neg (by omega), if_pos (by omega)]; done) | (rw [if_neg (by omega), if_neg (by omega), if_neg (by omega), if_pos (by omega)]; rfl) | (rw [if_neg (by omega), if_neg (by omega), if_neg (by omega), if_neg (by omega)]; done), rfl, rfl⟩
theorem c_isAsked {S : Sh} {M : Me} {o v u : Int} : Con kX11_isAsked 0 0 0 [(0, o), (2, v), (2, u)] S M (Ex (some (0, askd o v u)) S M) := by
  refine Con.ofV (al := [(0, o), (2, v), (9, 0), (2, u), (9, 0)]) 0 (by decide) (Nat.le_of_ble_eq_true rfl) rfl ?_
  refine r_iload_n dX11_isAsked_0 rfl ?_
  refine r_bipush dX11_isAsked_1 (by decide) (by decide) ?_
  refine r_icmp_ne (tgt := 20) dX11_isAsked_3 (by decide) (fun h3 => ?_) (fun h3 => ?_)
  · refine r_iload_n dX11_isAsked_20 rfl ?_
    refine r_bipush dX11_isAsked_21 (by decide) (by decide) ?_
    refine r_icmp_ne (tgt := 40) dX11_isAsked_23 (by decide) (fun h23 => ?_) (fun h23 => ?_)
    · refine r_iload_n dX11_isAsked_40 rfl ?_
      refine r_bipush dX11_isAsked_41 (by decide) (by decide) ?_
      refine r_icmp_ne (tgt := 60) dX11_isAsked_43 (by decide) (fun h43 => ?_) (fun h43 => ?_)
      · refine r_iload_n dX11_isAsked_60 rfl ?_
        refine r_bipush dX11_isAsked_61 (by decide) (by decide) ?_
        refine r_icmp_ne (tgt := 80) dX11_isAsked_63 (by decide) (fun h63 => ?_) (fun h63 => ?_)
        · refine r_iload_n dX11_isAsked_80 rfl ?_
          refine r_bipush dX11_isAsked_81 (by decide) (by decide) ?_
          refine r_icmp_ne (tgt := 100) dX11_isAsked_83 (by decide) (fun h83 => ?_) (fun h83 => ?_)
          · refine r_lload_n dX11_isAsked_100 rfl ?_
            refine r_lload_n dX11_isAsked_101 rfl ?_
            refine r_lcmp dX11_isAsked_102 ?_
            refine r_if_eq (tgt := 110) dX11_isAsked_103 (by decide) (fun h103 => ?_) (fun h103 => ?_)
            · replace h103 := lc_eq.mp h103
              refine r_iconst dX11_isAsked_110 (by decide) ?_
              refine r_zret dX11_isAsked_111 rfl (by omega) ?_
              refine ⟨?_, rfl, rfl⟩; unfold askd bi; (repeat' split) <;> first | rfl | (exfalso; omega)
            · replace h103 := lc_ne.mp h103
              refine r_iconst dX11_isAsked_106 (by decide) ?_
              refine r_goto (tgt := 111) dX11_isAsked_107 (by decide) ?_
              refine r_zret dX11_isAsked_111 rfl (by omega) ?_
              refine ⟨?_, rfl, rfl⟩; unfold askd bi; (repeat' split) <;> first | rfl | (exfalso; omega)
          · refine r_lload_n dX11_isAsked_86 rfl ?_
            refine r_lload_n dX11_isAsked_87 rfl ?_
            refine r_lcmp dX11_isAsked_88 ?_
            refine r_if_ne (tgt := 96) dX11_isAsked_89 (by decide) (fun h89 => ?_) (fun h89 => ?_)
            · replace h89 := lc_ne.mp h89
              refine r_iconst dX11_isAsked_96 (by decide) ?_
              refine r_goto (tgt := 111) dX11_isAsked_97 (by decide) ?_
              refine r_zret dX11_isAsked_111 rfl (by omega) ?_
              refine ⟨?_, rfl, rfl⟩; unfold askd bi; (repeat' split) <;> first | rfl | (exfalso; omega)
            · replace h89 := lc_eq.mp h89
              refine r_iconst dX11_isAsked_92 (by decide) ?_
              refine r_goto (tgt := 111) dX11_isAsked_93 (by decide) ?_
              refine r_zret dX11_isAsked_111 rfl (by omega) ?_
              refine ⟨?_, rfl, rfl⟩; unfold askd bi; (repeat' split) <;> first | rfl | (exfalso; omega)
        · refine r_lload_n dX11_isAsked_66 rfl ?_
          refine r_lload_n dX11_isAsked_67 rfl ?_
          refine r_lcmp dX11_isAsked_68 ?_
          refine r_if_lt (tgt := 76) dX11_isAsked_69 (by decide) (fun h69 => ?_) (fun h69 => ?_)
          · replace h69 := lc_lt.mp h69
            refine r_iconst dX11_isAsked_76 (by decide) ?_
            refine r_goto (tgt := 111) dX11_isAsked_77 (by decide) ?_
            refine r_zret dX11_isAsked_111 rfl (by omega) ?_
            refine ⟨?_, rfl, rfl⟩; unfold askd bi; (repeat' split) <;> first | rfl | (exfalso; omega)
          · replace h69 := lc_ge.mp h69
            refine r_iconst dX11_isAsked_72 (by decide) ?_
            refine r_goto (tgt := 111) dX11_isAsked_73 (by decide) ?_
            refine r_zret dX11_isAsked_111 rfl (by omega) ?_
            refine ⟨?_, rfl, rfl⟩; unfold askd bi; (repeat' split) <;> first | rfl | (exfalso; omega)
      · refine r_lload_n dX11_isAsked_46 rfl ?_
        refine r_lload_n dX11_isAsked_47 rfl ?_
        refine r_lcmp dX11_isAsked_48 ?_
        refine r_if_le (tgt := 56) dX11_isAsked_49 (by decide) (fun h49 => ?_) (fun h49 => ?_)
        · replace h49 := lc_le.mp h49
          refine r_iconst dX11_isAsked_56 (by decide) ?_
          refine r_goto (tgt := 111) dX11_isAsked_57 (by decide) ?_
          refine r_zret dX11_isAsked_111 rfl (by omega) ?_
          refine ⟨?_, rfl, rfl⟩; unfold askd bi; (repeat' split) <;> first | rfl | (exfalso; omega)
        · replace h49 := lc_gt.mp h49
          refine r_iconst dX11_isAsked_52 (by decide) ?_
          refine r_goto (tgt := 111) dX11_isAsked_53 (by decide) ?_
          refine r_zret dX11_isAsked_111 rfl (by omega) ?_
          refine ⟨?_, rfl, rfl⟩; unfold askd bi; (repeat' split) <;> first | rfl | (exfalso; omega)
    · refine r_lload_n dX11_isAsked_26 rfl ?_
      refine r_lload_n dX11_isAsked_27 rfl ?_
      refine r_lcmp dX11_isAsked_28 ?_
      refine r_if_gt (tgt := 36) dX11_isAsked_29 (by decide) (fun h29 => ?_) (fun h29 => ?_)
      · replace h29 := lc_gt.mp h29
        refine r_iconst dX11_isAsked_36 (by decide) ?_
        refine r_goto (tgt := 111) dX11_isAsked_37 (by decide) ?_
        refine r_zret dX11_isAsked_111 rfl (by omega) ?_
        refine ⟨?_, rfl, rfl⟩; unfold askd bi; (repeat' split) <;> first | rfl | (exfalso; omega)
      · replace h29 := lc_le.mp h29
        refine r_iconst dX11_isAsked_32 (by decide) ?_
        refine r_goto (tgt := 111) dX11_isAsked_33 (by decide) ?_
        refine r_zret dX11_isAsked_111 rfl (by omega) ?_
        refine ⟨?_, rfl, rfl⟩; unfold askd bi; (repeat' split) <;> first | rfl | (exfalso; omega)
  · refine r_lload_n dX11_isAsked_6 rfl ?_
    refine r_lload_n dX11_isAsked_7 rfl ?_
    refine r_lcmp dX11_isAsked_8 ?_
    refine r_if_ge (tgt := 16) dX11_isAsked_9 (by decide) (fun h9 => ?_) (fun h9 => ?_)
    · replace h9 := lc_ge.mp h9
      refine r_iconst dX11_isAsked_16 (by decide) ?_
      refine r_goto (tgt := 111) dX11_isAsked_17 (by decide) ?_
      refine r_zret dX11_isAsked_111 rfl (by omega) ?_
      refine ⟨?_, rfl, rfl⟩; unfold askd bi; (repeat' split) <;> first | rfl | (exfalso; omega)
    · replace h9 := lc_lt.mp h9
      refine r_iconst dX11_isAsked_12 (by decide) ?_
      refine r_goto (tgt := 111) dX11_isAsked_13 (by decide) ?_
      refine r_zret dX11_isAsked_111 rfl (by omega) ?_
      refine ⟨?_, rfl, rfl⟩; unfold askd bi; (repeat' split) <;> first | rfl | (exfalso; omega)
theorem c_joined {S : Sh} {M : Me} {o a b : Int} : Con kX11_joined 0 0 0 [(0, o), (0, a), (0, b)] S M (Ex (some (0, joi o a b)) S M) := by
  refine Con.ofV (al := [(0, o), (0, a), (0, b)]) 0 (by decide) (Nat.le_of_ble_eq_true rfl) rfl ?_
  refine r_iload_n dX11_joined_0 rfl ?_
  refine r_bipush dX11_joined_1 (by decide) (by decide) ?_
  refine r_icmp_ne (tgt := 22) dX11_joined_3 (by decide) (fun h3 => ?_) (fun h3 => ?_)
  · refine r_iload_n dX11_joined_22 rfl ?_
    refine r_if_ne (tgt := 30) dX11_joined_23 (by decide) (fun h23 => ?_) (fun h23 => ?_)
    · try have h23 := bi_1.mp h23
      refine r_iconst dX11_joined_30 (by decide) ?_
      refine r_goto (tgt := 35) dX11_joined_31 (by decide) ?_
      refine r_zret dX11_joined_35 rfl (by omega) ?_
      refine ⟨?_, rfl, rfl⟩; unfold joi bi; (repeat' split) <;> first | rfl | (exfalso; omega)
    · try have h23 := bi_0.mp h23
      refine r_iload_n dX11_joined_26 rfl ?_
      refine r_if_eq (tgt := 34) dX11_joined_27 (by decide) (fun h27 => ?_) (fun h27 => ?_)
      · try have h27 := bi_0.mp h27
        refine r_iconst dX11_joined_34 (by decide) ?_
        refine r_zret dX11_joined_35 rfl (by omega) ?_
        refine ⟨?_, rfl, rfl⟩; unfold joi bi; (repeat' split) <;> first | rfl | (exfalso; omega)
      · try have h27 := bi_1.mp h27
        refine r_iconst dX11_joined_30 (by decide) ?_
        refine r_goto (tgt := 35) dX11_joined_31 (by decide) ?_
        refine r_zret dX11_joined_35 rfl (by omega) ?_
        refine ⟨?_, rfl, rfl⟩; unfold joi bi; (repeat' split) <;> first | rfl | (exfalso; omega)
  · refine r_iload_n dX11_joined_6 rfl ?_
    refine r_if_eq (tgt := 18) dX11_joined_7 (by decide) (fun h7 => ?_) (fun h7 => ?_)
    · try have h7 := bi_0.mp h7
      refine r_iconst dX11_joined_18 (by decide) ?_
      refine r_goto (tgt := 35) dX11_joined_19 (by decide) ?_
      refine r_zret dX11_joined_35 rfl (by omega) ?_
      refine ⟨?_, rfl, rfl⟩; unfold joi bi; (repeat' split) <;> first | rfl | (exfalso; omega)
    · try have h7 := bi_1.mp h7
      refine r_iload_n dX11_joined_10 rfl ?_
      refine r_if_eq (tgt := 18) dX11_joined_11 (by decide) (fun h11 => ?_) (fun h11 => ?_)
      · try have h11 := bi_0.mp h11
        refine r_iconst dX11_joined_18 (by decide) ?_
        refine r_goto (tgt := 35) dX11_joined_19 (by decide) ?_
        refine r_zret dX11_joined_35 rfl (by omega) ?_
        refine ⟨?_, rfl, rfl⟩; unfold joi bi; (repeat' split) <;> first | rfl | (exfalso; omega)
      · try have h11 := bi_1.mp h11
        refine r_iconst dX11_joined_14 (by decide) ?_
        refine r_goto (tgt := 35) dX11_joined_15 (by decide) ?_
        refine r_zret dX11_joined_35 rfl (by omega) ?_
        refine ⟨?_, rfl, rfl⟩; unfold joi bi; (repeat' split) <;> first | rfl | (exfalso; omega)
def w2L (a b : Int) : Int := or64 (shl64 a 8) b
def w3L (a b c : Int) : Int := or64 (shl64 (w2L a b) 8) c
def w4L (a b c d : Int) : Int := or64 (shl64 (w3L a b c) 8) d
def w5L (a b c d e : Int) : Int := or64 (shl64 (w4L a b c d) 8) e
def w6L (a b c d e f : Int) : Int := or64 (shl64 (w5L a b c d e) 8) f
theorem c_w2 {S : Sh} {M : Me} {a b : Int} : Con kX11_w2 0 0 0 [(0, a), (0, b)] S M (Ex (some (2, w2L a b)) S M) := by
  refine Con.ofV (al := [(0, a), (0, b)]) 0 (by decide) (Nat.le_of_ble_eq_true rfl) rfl ?_
  refine r_iload_n dX11_w2_0 rfl ?_
  refine r_i2l dX11_w2_1 ?_
  refine r_bipush dX11_w2_2 (by decide) (by decide) ?_
  refine r_lshl dX11_w2_4 rfl ?_
  refine r_iload_n dX11_w2_5 rfl ?_
  refine r_i2l dX11_w2_6 ?_
  refine r_lor dX11_w2_7 rfl ?_
  refine r_lret dX11_w2_8 rfl ?_
  exact ⟨rfl, rfl, rfl⟩
theorem c_w3 {S : Sh} {M : Me} {a b c : Int} : Con kX11_w3 1 0 0 [(0, a), (0, b), (0, c)] S M (Ex (some (2, w3L a b c)) S M) := by
  refine Con.ofV (al := [(0, a), (0, b), (0, c)]) 0 (by decide) (Nat.le_of_ble_eq_true rfl) rfl ?_
  refine r_iload_n dX11_w3_0 rfl ?_
  refine r_iload_n dX11_w3_1 rfl ?_
  refine r_cs2 dX11_w3_2 clX11_127 (by first | decide | omega) (Nat.le_of_ble_eq_true rfl) (c_w2) ⟨Nat.zero_le _, Nat.zero_le _⟩ (fun _ => ?_)
  refine r_bipush dX11_w3_5 (by decide) (by decide) ?_
  refine r_lshl dX11_w3_7 rfl ?_
  refine r_iload_n dX11_w3_8 rfl ?_
  refine r_i2l dX11_w3_9 ?_
  refine r_lor dX11_w3_10 rfl ?_
  refine r_lret dX11_w3_11 rfl ?_
  exact ⟨rfl, rfl, rfl⟩
theorem c_w4 {S : Sh} {M : Me} {a b c d : Int} : Con kX11_w4 2 0 0 [(0, a), (0, b), (0, c), (0, d)] S M (Ex (some (2, w4L a b c d)) S M) := by
  refine Con.ofV (al := [(0, a), (0, b), (0, c), (0, d)]) 0 (by decide) (Nat.le_of_ble_eq_true rfl) rfl ?_
  refine r_iload_n dX11_w4_0 rfl ?_
  refine r_iload_n dX11_w4_1 rfl ?_
  refine r_iload_n dX11_w4_2 rfl ?_
  refine r_cs3 dX11_w4_3 clX11_131 (by first | decide | omega) (Nat.le_of_ble_eq_true rfl) (c_w3) ⟨Nat.zero_le _, Nat.zero_le _⟩ (fun _ => ?_)
  refine r_bipush dX11_w4_6 (by decide) (by decide) ?_
  refine r_lshl dX11_w4_8 rfl ?_
  refine r_iload_n dX11_w4_9 rfl ?_
  refine r_i2l dX11_w4_10 ?_
  refine r_lor dX11_w4_11 rfl ?_
  refine r_lret dX11_w4_12 rfl ?_
  exact ⟨rfl, rfl, rfl⟩
theorem c_w5 {S : Sh} {M : Me} {a b c d e : Int} : Con kX11_w5 3 0 0 [(0, a), (0, b), (0, c), (0, d), (0, e)] S M (Ex (some (2, w5L a b c d e)) S M) := by
  refine Con.ofV (al := [(0, a), (0, b), (0, c), (0, d), (0, e)]) 0 (by decide) (Nat.le_of_ble_eq_true rfl) rfl ?_
  refine r_iload_n dX11_w5_0 rfl ?_
  refine r_iload_n dX11_w5_1 rfl ?_
  refine r_iload_n dX11_w5_2 rfl ?_
  refine r_iload_n dX11_w5_3 rfl ?_
  refine r_cs4 dX11_w5_4 clX11_135 (by first | decide | omega) (Nat.le_of_ble_eq_true rfl) (c_w4) ⟨Nat.zero_le _, Nat.zero_le _⟩ (fun _ => ?_)
  refine r_bipush dX11_w5_7 (by decide) (by decide) ?_
  refine r_lshl dX11_w5_9 rfl ?_
  refine r_iload dX11_w5_10 rfl ?_
  refine r_i2l dX11_w5_12 ?_
  refine r_lor dX11_w5_13 rfl ?_
  refine r_lret dX11_w5_14 rfl ?_
  exact ⟨rfl, rfl, rfl⟩
theorem c_w6 {S : Sh} {M : Me} {a b c d e f : Int} : Con kX11_w6 4 0 0 [(0, a), (0, b), (0, c), (0, d), (0, e), (0, f)] S M (Ex (some (2, w6L a b c d e f)) S M) := by
  refine Con.ofV (al := [(0, a), (0, b), (0, c), (0, d), (0, e), (0, f)]) 0 (by decide) (Nat.le_of_ble_eq_true rfl) rfl ?_
  refine r_iload_n dX11_w6_0 rfl ?_
  refine r_iload_n dX11_w6_1 rfl ?_
  refine r_iload_n dX11_w6_2 rfl ?_
  refine r_iload_n dX11_w6_3 rfl ?_
  refine r_iload dX11_w6_4 rfl ?_
  refine r_cs5 dX11_w6_6 clX11_139 (by first | decide | omega) (Nat.le_of_ble_eq_true rfl) (c_w5) ⟨Nat.zero_le _, Nat.zero_le _⟩ (fun _ => ?_)
  refine r_bipush dX11_w6_9 (by decide) (by decide) ?_
  refine r_lshl dX11_w6_11 rfl ?_
  refine r_iload dX11_w6_12 rfl ?_
  refine r_i2l dX11_w6_14 ?_
  refine r_lor dX11_w6_15 rfl ?_
  refine r_lret dX11_w6_16 rfl ?_
  exact ⟨rfl, rfl, rfl⟩
