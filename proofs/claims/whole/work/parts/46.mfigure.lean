theorem nuS_b {M : Me} {n : Nat} (h4 : M 429 4 = (n : Int)) : ∀ (f : Nat) (i u : Int), i + f = n → 0 ≤ u ∧ u ≤ 999999 → (i ≤ (nuS M f i u).1 ∧ (nuS M f i u).1 ≤ n) ∧ 0 ≤ (nuS M f i u).2 ∧ (nuS M f i u).2 ≤ 999999 := by
  intro f
  induction f with
  | zero => intro i u h1 h2; exact ⟨(show i ≤ i ∧ i ≤ (n : Int) by omega), h2⟩
  | succ f ih =>
    intro i u h1 h2
    unfold nuS
    split
    · have := ih (i + 1) (if u ≤ 99999 then 10 * u + bta M i - 48 else u) (by omega) (by split <;> omega)
      exact ⟨by omega, this.2⟩
    · exact ⟨(show i ≤ i ∧ i ≤ (n : Int) by omega), h2⟩
theorem woS_b {M : Me} {n : Nat} : ∀ (f : Nat) (i w : Int), i + f = n → i ≤ (woS M f i w).1 ∧ (woS M f i w).1 ≤ n := by
  intro f
  induction f with
  | zero => intro i w h1; exact (show i ≤ i ∧ i ≤ (n : Int) by omega)
  | succ f ih =>
    intro i w h1
    unfold woS
    split
    · have := ih (i + 1) (if shr64 w 48 = 0 then or64 (shl64 w 8) (bta M i) else 1152921504606846976) (by omega)
      omega
    · exact (show i ≤ i ∧ i ≤ (n : Int) by omega)
/-- a token leaves the place within the tape, and touches nothing else -/
theorem nxT_7 {M : Me} {n : Nat} (h4 : M 429 4 = (n : Int)) (h7 : 0 ≤ M 429 7 ∧ M 429 7 ≤ n) : 0 ≤ nxT M n 429 7 ∧ nxT M n 429 7 ≤ n := by
  have hb := skA_b (M := M) (n - M 429 7).toNat (M 429 7)
  unfold nxT
  generalize skA M (n - M 429 7).toNat (M 429 7) = s at hb ⊢
  have hl := fun h => bta_l (M := M) (i := s) h
  have hl2 := fun h => bta_l (M := M) (i := s + 1) h
  have h1 := nuS_b h4 (n - s).toNat s 0 (by omega) (by decide)
  have h2 := woS_b (M := M) (n := n) (n - s).toNat s 0 (by omega)
  unfold nxtS
  (repeat' split) <;> rw [tk_r7] <;> omega
theorem nxT_o {M : Me} {n : Nat} {a j : Int} (h : ¬ (a = 429 ∧ 7 ≤ j ∧ j ≤ 11)) : nxT M n a j = M a j := by
  unfold nxT nxtS
  (repeat' split) <;> exact tk_o h
theorem m_figure {x y z : Int} {M : Me} {i a b : Int} (hi : 0 ≤ i ∧ i < 2820) {n : Nat} (h4 : M 429 4 = (n : Int)) (hn : n ≤ 300) (h7 : 0 ≤ M 429 7 ∧ M 429 7 ≤ n) : Con kX11_figure 2 0 0 [(1, 429), (0, i), (0, a), (0, b)] (Sf x y z) M (fun v9 S9 M9 => S9 = (Sf x y z) ∧ ((M 429 9 ≠ 1) ∧ v9 = some (0, 1) ∧ M9 = M ∨ (M 429 9 = 1 ∧ ¬ (a ≤ M 429 10 ∧ M 429 10 ≤ b)) ∧ v9 = some (0, 2) ∧ M9 = M ∨ (M 429 9 = 1 ∧ (a ≤ M 429 10 ∧ M 429 10 ≤ b)) ∧ v9 = some (0, 0) ∧ M9 = nxT (up M 432 i (M 429 10)) n)) := by
  refine Con.ofV (al := [(1, 429), (0, i), (0, a), (0, b)]) 0 (by decide) (Nat.le_of_ble_eq_true rfl) rfl ?_
  refine r_aload_n dX11_figure_0 rfl (by decide) ?_
  refine r_gi 9 dX11_figure_1 flX11_105 sf429 (by decide) (by decide) rfl rfl (by first | assumption | ((repeat (first | (apply rd_ne; · omega) | (apply rd_eq; · omega) | (apply rd_out; · omega) | (apply rd_in; · omega))); first | assumption | rfl)) ?_
  refine r_iconst dX11_figure_4 (by decide) ?_
  refine r_icmp_eq (tgt := 10) dX11_figure_5 (by decide) (fun h5 => ?_) (fun h5 => ?_)
  · refine r_aload_n dX11_figure_10 rfl (by decide) ?_
    refine r_gi 10 dX11_figure_11 flX11_111 sf429 (by decide) (by decide) rfl rfl (by first | assumption | ((repeat (first | (apply rd_ne; · omega) | (apply rd_eq; · omega) | (apply rd_out; · omega) | (apply rd_in; · omega))); first | assumption | rfl)) ?_
    refine r_iload_n dX11_figure_14 rfl ?_
    refine r_iload_n dX11_figure_15 rfl ?_
    refine r_cs3 dX11_figure_16 clX11_62 (by first | decide | omega) (Nat.le_of_ble_eq_true rfl) (c_isIn) ⟨Nat.zero_le _, Nat.zero_le _⟩ (fun _ => ?_)
    refine r_if_ne (tgt := 24) dX11_figure_19 (by decide) (fun h19 => ?_) (fun h19 => ?_)
    · try have h19 := bi_1.mp h19
      refine r_aload_n dX11_figure_24 rfl (by decide) ?_
      refine r_getr (x := 432) dX11_figure_25 flX11_16 sf429 (by decide) (by decide) rfl rfl ?_
      refine r_iload_n dX11_figure_28 rfl ?_
      refine r_aload_n dX11_figure_29 rfl (by decide) ?_
      refine r_gi 10 dX11_figure_30 flX11_111 sf429 (by decide) (by decide) rfl rfl (by first | assumption | ((repeat (first | (apply rd_ne; · omega) | (apply rd_eq; · omega) | (apply rd_out; · omega) | (apply rd_in; · omega))); first | assumption | rfl)) ?_
      refine r_iast dX11_figure_33 sf432 (by decide) (by omega) (by omega) (by decide) rfl ?_
      refine r_aload_n dX11_figure_34 rfl (by decide) ?_
      refine r_cw0 dX11_figure_35 clX11_172 sf429 (by decide) (by decide) rfl (by first | decide | omega) (Nat.le_of_ble_eq_true rfl) ((m_nextToken ((up_ne (by omega)).trans h4) hn (by rw [up_ne (by omega)]; exact h7))) ⟨Nat.zero_le _, Nat.zero_le _⟩ ?_
      refine r_iconst dX11_figure_38 (by decide) ?_
      refine r_iret dX11_figure_39 rfl ?_
      first | exact ⟨rfl, Or.inl ⟨by omega, rfl, rfl⟩⟩ | exact ⟨rfl, Or.inr (Or.inl ⟨by omega, rfl, rfl⟩)⟩ | exact ⟨rfl, Or.inr (Or.inr (⟨by omega, rfl, rfl⟩))⟩
    · try have h19 := bi_0.mp h19
      refine r_iconst dX11_figure_22 (by decide) ?_
      refine r_iret dX11_figure_23 rfl ?_
      first | exact ⟨rfl, Or.inl ⟨by omega, rfl, rfl⟩⟩ | exact ⟨rfl, Or.inr (Or.inl ⟨by omega, rfl, rfl⟩)⟩ | exact ⟨rfl, Or.inr (Or.inr (⟨by omega, rfl, rfl⟩))⟩
  · refine r_iconst dX11_figure_8 (by decide) ?_
    refine r_iret dX11_figure_9 rfl ?_
    first | exact ⟨rfl, Or.inl ⟨by omega, rfl, rfl⟩⟩ | exact ⟨rfl, Or.inr (Or.inl ⟨by omega, rfl, rfl⟩)⟩ | exact ⟨rfl, Or.inr (Or.inr (⟨by omega, rfl, rfl⟩))⟩
def fgV (M : Me) (a b : Int) : Int := if M 429 9 ≠ 1 then 1 else if a ≤ M 429 10 ∧ M 429 10 ≤ b then 0 else 2
def fgM (M : Me) (n : Nat) (i a b : Int) : Me := if M 429 9 = 1 ∧ (a ≤ M 429 10 ∧ M 429 10 ≤ b) then nxT (up M 432 i (M 429 10)) n else M
def wdV (M : Me) (n : Nat) (w a b : Int) : Int := if M 429 9 = 2 ∧ M 429 11 = w then fgV (nxT M n) a b else 1
def wdM (M : Me) (n : Nat) (w i a b : Int) : Me := if M 429 9 = 2 ∧ M 429 11 = w then fgM (nxT M n) n i a b else M
theorem m_figureE {x y z : Int} {M : Me} {i a b : Int} (hi : 0 ≤ i ∧ i < 2820) {n : Nat} (h4 : M 429 4 = (n : Int)) (hn : n ≤ 300) (h7 : 0 ≤ M 429 7 ∧ M 429 7 ≤ n) : Con kX11_figure 2 0 0 [(1, 429), (0, i), (0, a), (0, b)] (Sf x y z) M (Ex (some (0, fgV M a b)) (Sf x y z) (fgM M n i a b)) :=
  (m_figure hi h4 hn h7).mono (fun v9 S9 M9 h => by
    obtain ⟨h1, ⟨h2, h3, h5⟩ | ⟨h2, h3, h5⟩ | ⟨h2, h3, h5⟩⟩ := h
    · refine ⟨?_, h1, ?_⟩
      · unfold fgV; rw [if_pos h2]; exact h3
      · unfold fgM; rw [if_neg (by omega)]; exact h5
    · refine ⟨?_, h1, ?_⟩
      · unfold fgV; rw [if_neg (by omega), if_neg h2.2]; exact h3
      · unfold fgM; rw [if_neg (by omega)]; exact h5
    · refine ⟨?_, h1, ?_⟩
      · unfold fgV; rw [if_neg (by omega), if_pos h2.2]; exact h3
      · unfold fgM; rw [if_pos h2]; exact h5)
theorem m_worded {x y z : Int} {M : Me} {w i a b : Int} (hi : 0 ≤ i ∧ i < 2820) {n : Nat} (h4 : M 429 4 = (n : Int)) (hn : n ≤ 300) (h7 : 0 ≤ M 429 7 ∧ M 429 7 ≤ n) : Con kX11_worded 3 0 0 [(1, 429), (2, w), (0, i), (0, a), (0, b)] (Sf x y z) M (Ex (some (0, wdV M n w a b)) (Sf x y z) (wdM M n w i a b)) := by
  refine Con.ofV (al := [(1, 429), (2, w), (9, 0), (0, i), (0, a), (0, b)]) 0 (by decide) (Nat.le_of_ble_eq_true rfl) rfl ?_
  refine r_aload_n dX11_worded_0 rfl (by decide) ?_
  refine r_lload_n dX11_worded_1 rfl ?_
  refine r_cv1 dX11_worded_2 clX11_195 sf429 (by decide) (by decide) rfl (by first | decide | omega) (Nat.le_of_ble_eq_true rfl) (c_isWord) ⟨Nat.zero_le _, Nat.zero_le _⟩ (fun _ => ?_)
  refine r_if_ne (tgt := 10) dX11_worded_5 (by decide) (fun h5 => ?_) (fun h5 => ?_)
  · try have h5 := bi_1.mp h5
    refine r_aload_n dX11_worded_10 rfl (by decide) ?_
    refine r_cw0 dX11_worded_11 clX11_172 sf429 (by decide) (by decide) rfl (by first | decide | omega) (Nat.le_of_ble_eq_true rfl) ((m_nextToken h4 hn h7)) ⟨Nat.zero_le _, Nat.zero_le _⟩ ?_
    refine r_aload_n dX11_worded_14 rfl (by decide) ?_
    refine r_iload_n dX11_worded_15 rfl ?_
    refine r_iload dX11_worded_16 rfl ?_
    refine r_iload dX11_worded_18 rfl ?_
    refine r_cv3 dX11_worded_20 clX11_221 sf429 (by decide) (by decide) rfl (by first | decide | omega) (Nat.le_of_ble_eq_true rfl) ((m_figureE hi (n := n) ((nxT_o (by omega)).trans h4) hn (nxT_7 h4 h7))) ⟨Nat.zero_le _, Nat.zero_le _⟩ (fun _ => ?_)
    refine r_iret dX11_worded_23 rfl ?_
    first | exact ⟨by unfold wdV; rw [if_pos (by assumption)], rfl, by unfold wdM; rw [if_pos (by assumption)]⟩ | exact ⟨by unfold wdV; rw [if_neg (by assumption)], rfl, by unfold wdM; rw [if_neg (by assumption)]⟩
  · try have h5 := bi_0.mp h5
    refine r_iconst dX11_worded_8 (by decide) ?_
    refine r_iret dX11_worded_9 rfl ?_
    first | exact ⟨by unfold wdV; rw [if_pos (by assumption)], rfl, by unfold wdM; rw [if_pos (by assumption)]⟩ | exact ⟨by unfold wdV; rw [if_neg (by assumption)], rfl, by unfold wdM; rw [if_neg (by assumption)]⟩
theorem fgM_4 {M : Me} {n : Nat} {i a b : Int} : fgM M n i a b 429 4 = M 429 4 := by
  unfold fgM
  split
  · exact (nxT_o (by omega)).trans (up_ne (by omega))
  · rfl
theorem fgM_7 {M : Me} {n : Nat} (h4 : M 429 4 = (n : Int)) (h7 : 0 ≤ M 429 7 ∧ M 429 7 ≤ n) {i a b : Int} : 0 ≤ fgM M n i a b 429 7 ∧ fgM M n i a b 429 7 ≤ n := by
  unfold fgM
  split
  · exact nxT_7 ((up_ne (by omega)).trans h4) (by rw [up_ne (by omega)]; exact h7)
  · exact h7
def prV (M : Me) (n : Nat) (w i c d : Int) : Int := if fgV M 0 c = 0 then wdV (fgM M n (i + 1) 0 c) n w 0 d else fgV M 0 c
def prM (M : Me) (n : Nat) (w i c d : Int) : Me := if fgV M 0 c = 0 then wdM (fgM M n (i + 1) 0 c) n w (i + 2) 0 d else fgM M n (i + 1) 0 c
theorem m_pair {x y z : Int} {M : Me} {w i c d : Int} (hi : 0 ≤ i ∧ i + 2 < 2820) {n : Nat} (h4 : M 429 4 = (n : Int)) (hn : n ≤ 300) (h7 : 0 ≤ M 429 7 ∧ M 429 7 ≤ n) : Con kX11_pair 4 0 0 [(1, 429), (0, i), (0, c), (2, w), (0, d)] (Sf x y z) M (Ex (some (0, prV M n w i c d)) (Sf x y z) (prM M n w i c d)) := by
  refine Con.ofV (al := [(1, 429), (0, i), (0, c), (2, w), (9, 0), (0, d), (9, 0)]) 1 (by decide) (Nat.le_of_ble_eq_true rfl) rfl ?_
  refine r_aload_n dX11_pair_0 rfl (by decide) ?_
  refine r_iload_n dX11_pair_1 rfl ?_
  refine r_iconst dX11_pair_2 (by decide) ?_
  refine r_iadd dX11_pair_3 (w32_id (by omega)) ?_
  refine r_iconst dX11_pair_4 (by decide) ?_
  refine r_iload_n dX11_pair_5 rfl ?_
  refine r_cv3 dX11_pair_6 clX11_221 sf429 (by decide) (by decide) rfl (by first | decide | omega) (Nat.le_of_ble_eq_true rfl) ((m_figureE (by omega) h4 hn h7)) ⟨Nat.zero_le _, Nat.zero_le _⟩ (fun _ => ?_)
  refine r_istore dX11_pair_9 rfl (by decide) st6 ?_
  refine r_iload dX11_pair_11 rfl ?_
  refine r_if_eq (tgt := 21) dX11_pair_13 (by decide) (fun h13 => ?_) (fun h13 => ?_)
  · refine r_aload_n dX11_pair_21 rfl (by decide) ?_
    refine r_lload_n dX11_pair_22 rfl ?_
    refine r_iload_n dX11_pair_23 rfl ?_
    refine r_iconst dX11_pair_24 (by decide) ?_
    refine r_iadd dX11_pair_25 (w32_id (by omega)) ?_
    refine r_iconst dX11_pair_26 (by decide) ?_
    refine r_iload dX11_pair_27 rfl ?_
    refine r_cv4 dX11_pair_29 clX11_228 sf429 (by decide) (by decide) rfl (by first | decide | omega) (Nat.le_of_ble_eq_true rfl) ((m_worded (by omega) (fgM_4.trans h4) hn (fgM_7 h4 h7))) ⟨Nat.zero_le _, Nat.zero_le _⟩ (fun _ => ?_)
    refine r_iret dX11_pair_32 rfl ?_
    first | exact ⟨by unfold prV; rw [if_pos (by assumption)], rfl, by unfold prM; rw [if_pos (by assumption)]⟩ | exact ⟨by unfold prV; rw [if_neg (by assumption)], rfl, by unfold prM; rw [if_neg (by assumption)]⟩
  · refine r_iload dX11_pair_16 rfl ?_
    refine r_goto (tgt := 32) dX11_pair_18 (by decide) ?_
    refine r_iret dX11_pair_32 rfl ?_
    first | exact ⟨by unfold prV; rw [if_pos (by assumption)], rfl, by unfold prM; rw [if_pos (by assumption)]⟩ | exact ⟨by unfold prV; rw [if_neg (by assumption)], rfl, by unfold prM; rw [if_neg (by assumption)]⟩
