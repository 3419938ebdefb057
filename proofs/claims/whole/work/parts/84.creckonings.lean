noncomputable def fcuS (M : Me) (n nw : Nat) : Int := (cuS M n nw (2 ^ pcn (thC M n).toNat)).1
noncomputable def fcuV (M : Me) (n nw : Nat) (u : Int) : Int := if fcuS M n nw < 0 then -1000 else if u = 0 then fcuS M n nw else wsC M n (fcuS M n nw)
theorem f_cut {x y z : Int} {M : Me} (h : CI M) {u : Int} {n : Nat} (hn : M 50 3 = (n : Int)) (hn12 : n ≤ 12) {nw : Nat} (hnw : M 215 0 = (nw : Int)) (hnw8 : nw ≤ 8) : Con kX10_cut 4 0 0 [(1, 0), (0, u)] (Sf x y z) M (Ex (some (0, fcuV M n nw u)) (Sf x y z) M) := by
  refine Con.ofV (al := [(1, 0), (0, u), (9, 0)]) 1 (by decide) (Nat.le_of_ble_eq_true rfl) rfl ?_
  have hw : ∀ c : Int, 0 ≤ c → c < n → -9 ≤ M 212 c ∧ M 212 c ≤ 9 := fun c h0 h1 => (h.2.1 c h0 (by omega)).2.2.2.2.2.2.1
  refine r_aload_n dX10_cut_0 rfl (by decide) ?_
  refine r_getr (x := 12) dX10_cut_1 flX10_39 sf0 (by decide) (by decide) rfl rfl ?_
  refine r_aload_n dX10_cut_4 rfl (by decide) ?_
  refine r_getr (x := 49) dX10_cut_5 flX10_52 sf0 (by decide) (by decide) rfl rfl ?_
  refine r_cv1 dX10_cut_8 clX10_225 sf12 (by decide) (by decide) rfl (by first | decide | omega) (Nat.le_of_ble_eq_true rfl) ((c_setToPress hn hn12 hnw hnw8 hw)) ⟨Nat.zero_le _, Nat.zero_le _⟩ (fun _ => ?_)
  rw [show (cuS M n nw (2 ^ pcn (thC M n).toNat)).1 = fcuS M n nw from rfl]
  refine r_istore_n dX10_cut_11 rfl (by decide) st2 ?_
  refine r_iload_n dX10_cut_12 rfl ?_
  refine r_if_ge (tgt := 20) dX10_cut_13 (by decide) (fun h13 => ?_) (fun h13 => ?_)
  · refine r_iload_n dX10_cut_20 rfl ?_
    refine r_if_eq (tgt := 35) dX10_cut_21 (by decide) (fun h21 => ?_) (fun h21 => ?_)
    · refine r_iload_n dX10_cut_35 rfl ?_
      refine r_iret dX10_cut_36 rfl ?_
      first | (exfalso; omega) | exact ⟨by unfold fcuV; rw [if_pos (by first | omega | assumption)], rfl, rfl⟩ | exact ⟨by unfold fcuV; rw [if_neg (by first | omega | assumption), if_pos (by first | omega | assumption)], rfl, rfl⟩ | exact ⟨by unfold fcuV; rw [if_neg (by first | omega | assumption), if_neg (by first | omega | assumption)], rfl, rfl⟩
    · refine r_aload_n dX10_cut_24 rfl (by decide) ?_
      refine r_getr (x := 49) dX10_cut_25 flX10_52 sf0 (by decide) (by decide) rfl rfl ?_
      refine r_iload_n dX10_cut_28 rfl ?_
      refine r_cv1 dX10_cut_29 clX10_162 sf49 (by decide) (by decide) rfl (by first | decide | omega) (Nat.le_of_ble_eq_true rfl) ((c_worthOf hn hn12 hw)) ⟨Nat.zero_le _, Nat.zero_le _⟩ (fun _ => ?_)
      refine r_goto (tgt := 36) dX10_cut_32 (by decide) ?_
      refine r_iret dX10_cut_36 rfl ?_
      first | (exfalso; omega) | exact ⟨by unfold fcuV; rw [if_pos (by first | omega | assumption)], rfl, rfl⟩ | exact ⟨by unfold fcuV; rw [if_neg (by first | omega | assumption), if_pos (by first | omega | assumption)], rfl, rfl⟩ | exact ⟨by unfold fcuV; rw [if_neg (by first | omega | assumption), if_neg (by first | omega | assumption)], rfl, rfl⟩
  · refine r_sipush dX10_cut_16 (by decide) (by decide) ?_
    refine r_iret dX10_cut_19 rfl ?_
    first | (exfalso; omega) | exact ⟨by unfold fcuV; rw [if_pos (by first | omega | assumption)], rfl, rfl⟩ | exact ⟨by unfold fcuV; rw [if_neg (by first | omega | assumption), if_pos (by first | omega | assumption)], rfl, rfl⟩ | exact ⟨by unfold fcuV; rw [if_neg (by first | omega | assumption), if_neg (by first | omega | assumption)], rfl, rfl⟩
def fhaO (M : Me) (q i : Int) : Prop := (1 ≤ q ∧ q ≤ 4) ∧ (-1 ≤ i ∧ i < M 219 0)
abbrev fhP (M : Me) (q i : Int) : Prop := q < 1 ∨ 4 < q ∨ i < -1 ∨ M 219 0 ≤ i
def fhaV (M : Me) (n : Nat) (q i : Int) : Int := if fhP M q i then -2 else if i = -1 then haM M n q 4 0 else haM M n q 5 i
def fhaM (M : Me) (n : Nat) (q i : Int) : Me := if fhP M q i then M else haM M n q
theorem f_hands {x y z : Int} {M : Me} {q i : Int} {n : Nat} (hn : M 219 0 = (n : Int)) (hn8 : n ≤ 8) (hw : ∀ j : Int, 0 ≤ j → j < n → 0 ≤ M 220 j ∧ M 220 j ≤ 99) : Con kX10_hands 12 0 0 [(1, 0), (0, q), (0, i)] (Sf x y z) M (Ex (some (0, fhaV M n q i)) (Sf x y (if fhP M q i then z else 219)) (fhaM M n q i)) := by
  refine Con.ofV (al := [(1, 0), (0, q), (0, i)]) 0 (by decide) (Nat.le_of_ble_eq_true rfl) rfl ?_
  refine r_iload_n dX10_hands_0 rfl ?_
  refine r_iconst dX10_hands_1 (by decide) ?_
  refine r_icmp_lt (tgt := 29) dX10_hands_2 (by decide) (fun h2 => ?_) (fun h2 => ?_)
  · refine r_bipush dX10_hands_29 (by decide) (by decide) ?_
    refine r_iret dX10_hands_31 rfl ?_
    first | (exfalso; omega) | exact ⟨by unfold fhaV; rw [if_pos (by omega)], by rw [if_pos (by omega)], by unfold fhaM; rw [if_pos (by omega)]⟩ | exact ⟨by unfold fhaV; rw [if_neg (by omega), if_pos (by omega)], by rw [if_neg (by omega)], by unfold fhaM; rw [if_neg (by omega)]⟩ | exact ⟨by unfold fhaV; rw [if_neg (by omega), if_neg (by omega)], by rw [if_neg (by omega)], by unfold fhaM; rw [if_neg (by omega)]⟩
  · refine r_iload_n dX10_hands_5 rfl ?_
    refine r_iconst dX10_hands_6 (by decide) ?_
    refine r_icmp_gt (tgt := 29) dX10_hands_7 (by decide) (fun h7 => ?_) (fun h7 => ?_)
    · refine r_bipush dX10_hands_29 (by decide) (by decide) ?_
      refine r_iret dX10_hands_31 rfl ?_
      first | (exfalso; omega) | exact ⟨by unfold fhaV; rw [if_pos (by omega)], by rw [if_pos (by omega)], by unfold fhaM; rw [if_pos (by omega)]⟩ | exact ⟨by unfold fhaV; rw [if_neg (by omega), if_pos (by omega)], by rw [if_neg (by omega)], by unfold fhaM; rw [if_neg (by omega)]⟩ | exact ⟨by unfold fhaV; rw [if_neg (by omega), if_neg (by omega)], by rw [if_neg (by omega)], by unfold fhaM; rw [if_neg (by omega)]⟩
    · refine r_iload_n dX10_hands_10 rfl ?_
      refine r_iconst dX10_hands_11 (by decide) ?_
      refine r_icmp_lt (tgt := 29) dX10_hands_12 (by decide) (fun h12 => ?_) (fun h12 => ?_)
      · refine r_bipush dX10_hands_29 (by decide) (by decide) ?_
        refine r_iret dX10_hands_31 rfl ?_
        first | (exfalso; omega) | exact ⟨by unfold fhaV; rw [if_pos (by omega)], by rw [if_pos (by omega)], by unfold fhaM; rw [if_pos (by omega)]⟩ | exact ⟨by unfold fhaV; rw [if_neg (by omega), if_pos (by omega)], by rw [if_neg (by omega)], by unfold fhaM; rw [if_neg (by omega)]⟩ | exact ⟨by unfold fhaV; rw [if_neg (by omega), if_neg (by omega)], by rw [if_neg (by omega)], by unfold fhaM; rw [if_neg (by omega)]⟩
      · refine r_iload_n dX10_hands_15 rfl ?_
        refine r_aload_n dX10_hands_16 rfl (by decide) ?_
        refine r_getr (x := 49) dX10_hands_17 flX10_52 sf0 (by decide) (by decide) rfl rfl ?_
        refine r_getr (x := 219) dX10_hands_20 flX10_229 sf49 (by decide) (by decide) rfl rfl ?_
        refine r_gi 0 dX10_hands_23 flX10_232 sf219 (by decide) (by decide) rfl rfl rfl ?_
        refine r_icmp_lt (tgt := 32) dX10_hands_26 (by decide) (fun h26 => ?_) (fun h26 => ?_)
        · refine r_aload_n dX10_hands_32 rfl (by decide) ?_
          refine r_getr (x := 4) dX10_hands_33 flX10_25 sf0 (by decide) (by decide) rfl rfl ?_
          refine r_aload_n dX10_hands_36 rfl (by decide) ?_
          refine r_getr (x := 49) dX10_hands_37 flX10_52 sf0 (by decide) (by decide) rfl rfl ?_
          refine r_getr (x := 219) dX10_hands_40 flX10_229 sf49 (by decide) (by decide) rfl rfl ?_
          refine r_iload_n dX10_hands_43 rfl ?_
          refine r_cw2 dX10_hands_44 clX10_235 sf4 (by decide) (by decide) rfl (by first | decide | omega) (Nat.le_of_ble_eq_true rfl) ((c_lay hn hn8 (by omega) hw)) ⟨Nat.zero_le _, Nat.zero_le _⟩ ?_
          refine r_iload_n dX10_hands_47 rfl ?_
          refine r_iconst dX10_hands_48 (by decide) ?_
          refine r_icmp_ne (tgt := 62) dX10_hands_49 (by decide) (fun h49 => ?_) (fun h49 => ?_)
          · refine r_aload_n dX10_hands_62 rfl (by decide) ?_
            refine r_getr (x := 4) dX10_hands_63 flX10_25 sf0 (by decide) (by decide) rfl rfl ?_
            refine r_getr (x := 5) dX10_hands_66 flX10_242 sf4 (by decide) (by decide) rfl rfl ?_
            refine r_iload_n dX10_hands_69 rfl ?_
            refine r_iald dX10_hands_70 sf5 (by decide) (by omega) (by omega) (by decide) rfl ?_
            refine r_iret dX10_hands_71 rfl ?_
            first | (exfalso; omega) | exact ⟨by unfold fhaV; rw [if_pos (by omega)], by rw [if_pos (by omega)], by unfold fhaM; rw [if_pos (by omega)]⟩ | exact ⟨by unfold fhaV; rw [if_neg (by omega), if_pos (by omega)], by rw [if_neg (by omega)], by unfold fhaM; rw [if_neg (by omega)]⟩ | exact ⟨by unfold fhaV; rw [if_neg (by omega), if_neg (by omega)], by rw [if_neg (by omega)], by unfold fhaM; rw [if_neg (by omega)]⟩
          · refine r_aload_n dX10_hands_52 rfl (by decide) ?_
            refine r_getr (x := 4) dX10_hands_53 flX10_25 sf0 (by decide) (by decide) rfl rfl ?_
            refine r_gi 0 dX10_hands_56 flX10_239 sf4 (by decide) (by decide) rfl rfl rfl ?_
            refine r_goto (tgt := 71) dX10_hands_59 (by decide) ?_
            refine r_iret dX10_hands_71 rfl ?_
            first | (exfalso; omega) | exact ⟨by unfold fhaV; rw [if_pos (by omega)], by rw [if_pos (by omega)], by unfold fhaM; rw [if_pos (by omega)]⟩ | exact ⟨by unfold fhaV; rw [if_neg (by omega), if_pos (by omega)], by rw [if_neg (by omega)], by unfold fhaM; rw [if_neg (by omega)]⟩ | exact ⟨by unfold fhaV; rw [if_neg (by omega), if_neg (by omega)], by rw [if_neg (by omega)], by unfold fhaM; rw [if_neg (by omega)]⟩
        · refine r_bipush dX10_hands_29 (by decide) (by decide) ?_
          refine r_iret dX10_hands_31 rfl ?_
          first | (exfalso; omega) | exact ⟨by unfold fhaV; rw [if_pos (by omega)], by rw [if_pos (by omega)], by unfold fhaM; rw [if_pos (by omega)]⟩ | exact ⟨by unfold fhaV; rw [if_neg (by omega), if_pos (by omega)], by rw [if_neg (by omega)], by unfold fhaM; rw [if_neg (by omega)]⟩ | exact ⟨by unfold fhaV; rw [if_neg (by omega), if_neg (by omega)], by rw [if_neg (by omega)], by unfold fhaM; rw [if_neg (by omega)]⟩
abbrev ffP (M : Me) (p k w : Int) : Prop := ¬ (0 ≤ p ∧ p < M 50 2) ∨ k < 0 ∨ 12 < k ∨ w < 1 ∨ 100 < w
def ffR (M : Me) (n : Nat) (p w : Int) : Me := row1 M 13 12 (fun j => if j < (n : Int) then nrC M n p w j else M 13 j)
noncomputable def fflV (M : Me) (n : Nat) (p k w : Int) : Int := if ffP M p k w then -1 else flS (fun c => ffR M n p w 13 c) n (owC M n p) k (2 ^ pcn (owC M n p).toNat)
noncomputable def fflM (M : Me) (n : Nat) (p k w : Int) : Me := if ffP M p k w then M else ffR M n p w
theorem f_flat {x y z : Int} {M : Me} (h : CI M) {p k w : Int} {n : Nat} (hn : M 50 3 = (n : Int)) (hn12 : n ≤ 12) : Con kX10_flat 3 0 0 [(1, 0), (0, p), (0, k), (0, w)] (Sf x y z) M (Ex (some (0, fflV M n p k w)) (Sf x y z) (fflM M n p k w)) := by
  refine Con.ofV (al := [(1, 0), (0, p), (0, k), (0, w)]) 0 (by decide) (Nat.le_of_ble_eq_true rfl) rfl ?_
  refine r_aload_n dX10_flat_0 rfl (by decide) ?_
  refine r_getr (x := 49) dX10_flat_1 flX10_52 sf0 (by decide) (by decide) rfl rfl ?_
  refine r_iload_n dX10_flat_4 rfl ?_
  refine r_cv1 dX10_flat_5 clX10_147 sf49 (by decide) (by decide) rfl (by first | decide | omega) (Nat.le_of_ble_eq_true rfl) (s_isPerson) ⟨Nat.zero_le _, Nat.zero_le _⟩ (fun _ => ?_)
  refine r_if_eq (tgt := 32) dX10_flat_8 (by decide) (fun h8 => ?_) (fun h8 => ?_)
  · try have h8 := bi_0.mp h8
    refine r_iconst dX10_flat_32 (by decide) ?_
    refine r_iret dX10_flat_33 rfl ?_
    first | (exfalso; omega) | exact ⟨by unfold fflV; rw [if_pos (by first | omega | assumption)] <;> rfl, rfl, by unfold fflM; rw [if_pos (by first | omega | assumption)] <;> rfl⟩ | exact ⟨by unfold fflV; rw [if_neg (by first | omega | assumption)] <;> rfl, rfl, by unfold fflM; rw [if_neg (by first | omega | assumption)] <;> rfl⟩
  · try have h8 := bi_1.mp h8
    refine r_iload_n dX10_flat_11 rfl ?_
    refine r_if_lt (tgt := 32) dX10_flat_12 (by decide) (fun h12 => ?_) (fun h12 => ?_)
    · refine r_iconst dX10_flat_32 (by decide) ?_
      refine r_iret dX10_flat_33 rfl ?_
      first | (exfalso; omega) | exact ⟨by unfold fflV; rw [if_pos (by first | omega | assumption)] <;> rfl, rfl, by unfold fflM; rw [if_pos (by first | omega | assumption)] <;> rfl⟩ | exact ⟨by unfold fflV; rw [if_neg (by first | omega | assumption)] <;> rfl, rfl, by unfold fflM; rw [if_neg (by first | omega | assumption)] <;> rfl⟩
    · refine r_iload_n dX10_flat_15 rfl ?_
      refine r_bipush dX10_flat_16 (by decide) (by decide) ?_
      refine r_icmp_gt (tgt := 32) dX10_flat_18 (by decide) (fun h18 => ?_) (fun h18 => ?_)
      · refine r_iconst dX10_flat_32 (by decide) ?_
        refine r_iret dX10_flat_33 rfl ?_
        first | (exfalso; omega) | exact ⟨by unfold fflV; rw [if_pos (by first | omega | assumption)] <;> rfl, rfl, by unfold fflM; rw [if_pos (by first | omega | assumption)] <;> rfl⟩ | exact ⟨by unfold fflV; rw [if_neg (by first | omega | assumption)] <;> rfl, rfl, by unfold fflM; rw [if_neg (by first | omega | assumption)] <;> rfl⟩
      · refine r_iload_n dX10_flat_21 rfl ?_
        refine r_iconst dX10_flat_22 (by decide) ?_
        refine r_icmp_lt (tgt := 32) dX10_flat_23 (by decide) (fun h23 => ?_) (fun h23 => ?_)
        · refine r_iconst dX10_flat_32 (by decide) ?_
          refine r_iret dX10_flat_33 rfl ?_
          first | (exfalso; omega) | exact ⟨by unfold fflV; rw [if_pos (by first | omega | assumption)] <;> rfl, rfl, by unfold fflM; rw [if_pos (by first | omega | assumption)] <;> rfl⟩ | exact ⟨by unfold fflV; rw [if_neg (by first | omega | assumption)] <;> rfl, rfl, by unfold fflM; rw [if_neg (by first | omega | assumption)] <;> rfl⟩
        · refine r_iload_n dX10_flat_26 rfl ?_
          refine r_bipush dX10_flat_27 (by decide) (by decide) ?_
          refine r_icmp_le (tgt := 34) dX10_flat_29 (by decide) (fun h29 => ?_) (fun h29 => ?_)
          · refine r_aload_n dX10_flat_34 rfl (by decide) ?_
            refine r_getr (x := 12) dX10_flat_35 flX10_39 sf0 (by decide) (by decide) rfl rfl ?_
            refine r_aload_n dX10_flat_38 rfl (by decide) ?_
            refine r_getr (x := 49) dX10_flat_39 flX10_52 sf0 (by decide) (by decide) rfl rfl ?_
            refine r_iload_n dX10_flat_42 rfl ?_
            refine r_iload_n dX10_flat_43 rfl ?_
            refine r_iload_n dX10_flat_44 rfl ?_
            refine r_cv4 dX10_flat_45 clX10_245 sf12 (by decide) (by decide) rfl (by first | decide | omega) (Nat.le_of_ble_eq_true rfl) ((c_flattest hn hn12 h (p := p) (k := k) (w := w) (by omega))) ⟨Nat.zero_le _, Nat.zero_le _⟩ (fun _ => ?_)
            refine r_iret dX10_flat_48 rfl ?_
            first | (exfalso; omega) | exact ⟨by unfold fflV; rw [if_pos (by first | omega | assumption)] <;> rfl, rfl, by unfold fflM; rw [if_pos (by first | omega | assumption)] <;> rfl⟩ | exact ⟨by unfold fflV; rw [if_neg (by first | omega | assumption)] <;> rfl, rfl, by unfold fflM; rw [if_neg (by first | omega | assumption)] <;> rfl⟩
          · refine r_iconst dX10_flat_32 (by decide) ?_
            refine r_iret dX10_flat_33 rfl ?_
            first | (exfalso; omega) | exact ⟨by unfold fflV; rw [if_pos (by first | omega | assumption)] <;> rfl, rfl, by unfold fflM; rw [if_pos (by first | omega | assumption)] <;> rfl⟩ | exact ⟨by unfold fflV; rw [if_neg (by first | omega | assumption)] <;> rfl, rfl, by unfold fflM; rw [if_neg (by first | omega | assumption)] <;> rfl⟩
theorem wnF_hi {M : Me} {ns m : Nat} {X : Int → Int} {j : Int} (h : (m : Int) ≤ j) : ∀ (k : Nat) (L : Int → Int), wnF M ns m X k L j = 0 := by
  intro k
  induction k with
  | zero => intro L; rfl
  | succ k ih =>
    intro L
    unfold wnF
    have e : ¬ (j = (m : Int) - k - 1) := by omega
    rw [ih, ih, if_neg e]
    split <;> rfl
theorem fn_8 {M : Me} {p : Int} {n ns : Nat} : fnM M p n ns 8 0 = fnF M p n ns := up_eq ⟨rfl, rfl⟩
theorem fn_m {M : Me} {p : Int} {n ns : Nat} : fnM M p n ns 8 2 = (fnm M p n : Int) := (up_ne (by omega)).trans ((fdM_o (by omega)).trans ((cpy_out (by omega)).trans fiM_2))
theorem fn_F {M : Me} {p : Int} {n ns : Nat} (hn12 : n ≤ 12) : 0 ≤ fnF M p n ns ∧ fnF M p n ns ≤ 4096 := by
  have h := cnF_b (M := M) (ns := ns) (m := fnm M p n) (X := fnX M p n) (fnm M p n) (fL M)
  have h2 := p2_12 (fnm M p n) (by have : fnm M p n ≤ n := (fcS_b (M := M) (p := p) n).1; omega)
  unfold fnF
  omega
theorem fn_10 {M : Me} {p : Int} {n ns : Nat} (hn12 : n ≤ 12) (hw : ∀ j : Int, 0 ≤ j → j < 12 → 0 ≤ M 10 j ∧ M 10 j ≤ 100000) : ∀ j : Int, 0 ≤ j → j < 12 → 0 ≤ fnM M p n ns 10 j ∧ fnM M p n ns 10 j ≤ 100000 := by
  intro j h0 h1
  have h2 := p2_12 (fnm M p n) (by have : fnm M p n ≤ n := (fcS_b (M := M) (p := p) n).1; omega)
  have h3 := wnF_b (M := M) (ns := ns) (m := fnm M p n) (X := fnX M p n) j (fnm M p n) (fL M)
  have e : fnM M p n ns 10 j = (if 0 ≤ j ∧ j < (fnm M p n : Int) then 0 else M 10 j) + wnF M ns (fnm M p n) (fnX M p n) (fnm M p n) (fL M) j := (up_ne (by omega)).trans (fdM_W ⟨h0, h1⟩)
  rw [e]
  by_cases q : 0 ≤ j ∧ j < (fnm M p n : Int)
  · rw [if_pos q]; omega
  · have := hw j h0 h1
    rw [if_neg q, wnF_hi (by omega)]; omega
abbrev fzP (M : Me) (p u : Int) : Prop := ¬ (0 ≤ p ∧ p < M 50 2) ∨ u < 0 ∨ 2 < u
noncomputable def fzV (M : Me) (n ns : Nat) (p u : Int) : Int := if fzP M p u then -1 else if u = 0 then fnF M p n ns else if u = 1 then (if 0 < fnF M p n ns then bset (fun j : Int => fnM M p n ns 10 j = fnF M p n ns) (fun j => fnM M p n ns 9 j) (fnm M p n) else 0) else (if 0 < fnF M p n ns then bset (fun j : Int => fnM M p n ns 10 j = 0) (fun j => fnM M p n ns 9 j) (fnm M p n) else 0)
noncomputable def fzM (M : Me) (n ns : Nat) (p u : Int) : Me := if fzP M p u then M else fnM M p n ns
noncomputable def fnV (M : Me) (n ns : Nat) (p : Int) : Int := if ¬ (0 ≤ p ∧ p < M 50 2) then -1 else (akS (fun j => fnM M p n ns 9 j) (fun j => fnM M p n ns 10 j) (fnF M p n ns) (fnm M p n)).1
noncomputable def fnN (M : Me) (n ns : Nat) (p : Int) : Me := if ¬ (0 ≤ p ∧ p < M 50 2) then M else fnM M p n ns
theorem f_sets {x y z : Int} {M : Me} {p u : Int} (h : CI M) {n : Nat} (hn : M 50 3 = (n : Int)) (hn12 : n ≤ 12) {ns : Nat} (h6 : M 223 0 = (ns : Int)) (h68 : ns ≤ 8) (hs : ∀ j : Int, 0 ≤ j → j < 8 → 0 ≤ M 226 j ∧ M 226 j ≤ 999) (hw : ∀ j : Int, 0 ≤ j → j < 12 → 0 ≤ M 10 j ∧ M 10 j ≤ 100000) : Con kX10_sets 16 0 0 [(1, 0), (0, p), (0, u)] (Sf x y z) M (Ex (some (0, fzV M n ns p u)) (Sf x (if fzP M p u then y else 49) z) (fzM M n ns p u)) := by
  refine Con.ofV (al := [(1, 0), (0, p), (0, u)]) 0 (by decide) (Nat.le_of_ble_eq_true rfl) rfl ?_
  have hm12 : fnm M p n ≤ 12 := by have : fnm M p n ≤ n := (fcS_b (M := M) (p := p) n).1; omega
  refine r_aload_n dX10_sets_0 rfl (by decide) ?_
  refine r_getr (x := 49) dX10_sets_1 flX10_52 sf0 (by decide) (by decide) rfl rfl ?_
  refine r_iload_n dX10_sets_4 rfl ?_
  refine r_cv1 dX10_sets_5 clX10_147 sf49 (by decide) (by decide) rfl (by first | decide | omega) (Nat.le_of_ble_eq_true rfl) (s_isPerson) ⟨Nat.zero_le _, Nat.zero_le _⟩ (fun _ => ?_)
  refine r_if_eq (tgt := 20) dX10_sets_8 (by decide) (fun h8 => ?_) (fun h8 => ?_)
  · try have h8 := bi_0.mp h8
    refine r_iconst dX10_sets_20 (by decide) ?_
    refine r_iret dX10_sets_21 rfl ?_
    first | (exfalso; omega) | exact ⟨congrArg (fun q : Int => some ((0 : Nat), q)) (if_pos (by first | omega | assumption) : fzV M n ns p u = _).symm, by rw [if_pos (by first | omega | assumption)], (if_pos (by first | omega | assumption) : fzM M n ns p u = _).symm⟩ | exact ⟨congrArg (fun q : Int => some ((0 : Nat), q)) ((if_neg (by first | omega | assumption)).trans (if_pos (by first | omega | assumption)) : fzV M n ns p u = _).symm, by rw [if_neg (by first | omega | assumption)], (if_neg (by first | omega | assumption) : fzM M n ns p u = _).symm⟩ | exact ⟨congrArg (fun q : Int => some ((0 : Nat), q)) ((if_neg (by first | omega | assumption)).trans ((if_neg (by first | omega | assumption)).trans (if_pos (by first | omega | assumption))) : fzV M n ns p u = _).symm, by rw [if_neg (by first | omega | assumption)], (if_neg (by first | omega | assumption) : fzM M n ns p u = _).symm⟩ | exact ⟨congrArg (fun q : Int => some ((0 : Nat), q)) ((if_neg (by first | omega | assumption)).trans ((if_neg (by first | omega | assumption)).trans (if_neg (by first | omega | assumption))) : fzV M n ns p u = _).symm, by rw [if_neg (by first | omega | assumption)], (if_neg (by first | omega | assumption) : fzM M n ns p u = _).symm⟩
  · try have h8 := bi_1.mp h8
    refine r_iload_n dX10_sets_11 rfl ?_
    refine r_if_lt (tgt := 20) dX10_sets_12 (by decide) (fun h12 => ?_) (fun h12 => ?_)
    · refine r_iconst dX10_sets_20 (by decide) ?_
      refine r_iret dX10_sets_21 rfl ?_
      first | (exfalso; omega) | exact ⟨congrArg (fun q : Int => some ((0 : Nat), q)) (if_pos (by first | omega | assumption) : fzV M n ns p u = _).symm, by rw [if_pos (by first | omega | assumption)], (if_pos (by first | omega | assumption) : fzM M n ns p u = _).symm⟩ | exact ⟨congrArg (fun q : Int => some ((0 : Nat), q)) ((if_neg (by first | omega | assumption)).trans (if_pos (by first | omega | assumption)) : fzV M n ns p u = _).symm, by rw [if_neg (by first | omega | assumption)], (if_neg (by first | omega | assumption) : fzM M n ns p u = _).symm⟩ | exact ⟨congrArg (fun q : Int => some ((0 : Nat), q)) ((if_neg (by first | omega | assumption)).trans ((if_neg (by first | omega | assumption)).trans (if_pos (by first | omega | assumption))) : fzV M n ns p u = _).symm, by rw [if_neg (by first | omega | assumption)], (if_neg (by first | omega | assumption) : fzM M n ns p u = _).symm⟩ | exact ⟨congrArg (fun q : Int => some ((0 : Nat), q)) ((if_neg (by first | omega | assumption)).trans ((if_neg (by first | omega | assumption)).trans (if_neg (by first | omega | assumption))) : fzV M n ns p u = _).symm, by rw [if_neg (by first | omega | assumption)], (if_neg (by first | omega | assumption) : fzM M n ns p u = _).symm⟩
    · refine r_iload_n dX10_sets_15 rfl ?_
      refine r_iconst dX10_sets_16 (by decide) ?_
      refine r_icmp_le (tgt := 22) dX10_sets_17 (by decide) (fun h17 => ?_) (fun h17 => ?_)
      · refine r_aload_n dX10_sets_22 rfl (by decide) ?_
        refine r_getr (x := 8) dX10_sets_23 flX10_32 sf0 (by decide) (by decide) rfl rfl ?_
        refine r_aload_n dX10_sets_26 rfl (by decide) ?_
        refine r_getr (x := 49) dX10_sets_27 flX10_52 sf0 (by decide) (by decide) rfl rfl ?_
        refine r_iload_n dX10_sets_30 rfl ?_
        refine r_cw2 dX10_sets_31 clX10_252 sf8 (by decide) (by decide) rfl (by first | decide | omega) (Nat.le_of_ble_eq_true rfl) ((c_find h hn hn12 h6 h68 hs hw)) ⟨Nat.zero_le _, Nat.zero_le _⟩ ?_
        refine r_iload_n dX10_sets_34 rfl ?_
        refine r_if_ne (tgt := 46) dX10_sets_35 (by decide) (fun h35 => ?_) (fun h35 => ?_)
        · try have h35 := bi_1.mp h35
          refine r_iload_n dX10_sets_46 rfl ?_
          refine r_iconst dX10_sets_47 (by decide) ?_
          refine r_icmp_ne (tgt := 61) dX10_sets_48 (by decide) (fun h48 => ?_) (fun h48 => ?_)
          · refine r_aload_n dX10_sets_61 rfl (by decide) ?_
            refine r_getr (x := 8) dX10_sets_62 flX10_32 sf0 (by decide) (by decide) rfl rfl ?_
            refine r_cv0 dX10_sets_65 clX10_262 sf8 (by decide) (by decide) rfl (by first | decide | omega) (Nat.le_of_ble_eq_true rfl) ((c_never fn_m hm12 fn_8)) ⟨Nat.zero_le _, Nat.zero_le _⟩ (fun _ => ?_)
            refine r_iret dX10_sets_68 rfl ?_
            first | (exfalso; omega) | exact ⟨congrArg (fun q : Int => some ((0 : Nat), q)) (if_pos (by first | omega | assumption) : fzV M n ns p u = _).symm, by rw [if_pos (by first | omega | assumption)], (if_pos (by first | omega | assumption) : fzM M n ns p u = _).symm⟩ | exact ⟨congrArg (fun q : Int => some ((0 : Nat), q)) ((if_neg (by first | omega | assumption)).trans (if_pos (by first | omega | assumption)) : fzV M n ns p u = _).symm, by rw [if_neg (by first | omega | assumption)], (if_neg (by first | omega | assumption) : fzM M n ns p u = _).symm⟩ | exact ⟨congrArg (fun q : Int => some ((0 : Nat), q)) ((if_neg (by first | omega | assumption)).trans ((if_neg (by first | omega | assumption)).trans (if_pos (by first | omega | assumption))) : fzV M n ns p u = _).symm, by rw [if_neg (by first | omega | assumption)], (if_neg (by first | omega | assumption) : fzM M n ns p u = _).symm⟩ | exact ⟨congrArg (fun q : Int => some ((0 : Nat), q)) ((if_neg (by first | omega | assumption)).trans ((if_neg (by first | omega | assumption)).trans (if_neg (by first | omega | assumption))) : fzV M n ns p u = _).symm, by rw [if_neg (by first | omega | assumption)], (if_neg (by first | omega | assumption) : fzM M n ns p u = _).symm⟩
          · refine r_aload_n dX10_sets_51 rfl (by decide) ?_
            refine r_getr (x := 8) dX10_sets_52 flX10_32 sf0 (by decide) (by decide) rfl rfl ?_
            refine r_cv0 dX10_sets_55 clX10_259 sf8 (by decide) (by decide) rfl (by first | decide | omega) (Nat.le_of_ble_eq_true rfl) ((c_sure fn_m hm12 fn_8)) ⟨Nat.zero_le _, Nat.zero_le _⟩ (fun _ => ?_)
            refine r_goto (tgt := 68) dX10_sets_58 (by decide) ?_
            refine r_iret dX10_sets_68 rfl ?_
            first | (exfalso; omega) | exact ⟨congrArg (fun q : Int => some ((0 : Nat), q)) (if_pos (by first | omega | assumption) : fzV M n ns p u = _).symm, by rw [if_pos (by first | omega | assumption)], (if_pos (by first | omega | assumption) : fzM M n ns p u = _).symm⟩ | exact ⟨congrArg (fun q : Int => some ((0 : Nat), q)) ((if_neg (by first | omega | assumption)).trans (if_pos (by first | omega | assumption)) : fzV M n ns p u = _).symm, by rw [if_neg (by first | omega | assumption)], (if_neg (by first | omega | assumption) : fzM M n ns p u = _).symm⟩ | exact ⟨congrArg (fun q : Int => some ((0 : Nat), q)) ((if_neg (by first | omega | assumption)).trans ((if_neg (by first | omega | assumption)).trans (if_pos (by first | omega | assumption))) : fzV M n ns p u = _).symm, by rw [if_neg (by first | omega | assumption)], (if_neg (by first | omega | assumption) : fzM M n ns p u = _).symm⟩ | exact ⟨congrArg (fun q : Int => some ((0 : Nat), q)) ((if_neg (by first | omega | assumption)).trans ((if_neg (by first | omega | assumption)).trans (if_neg (by first | omega | assumption))) : fzV M n ns p u = _).symm, by rw [if_neg (by first | omega | assumption)], (if_neg (by first | omega | assumption) : fzM M n ns p u = _).symm⟩
        · try have h35 := bi_0.mp h35
          refine r_aload_n dX10_sets_38 rfl (by decide) ?_
          refine r_getr (x := 8) dX10_sets_39 flX10_32 sf0 (by decide) (by decide) rfl rfl ?_
          refine r_gi 0 dX10_sets_42 flX10_256 sf8 (by decide) (by decide) rfl rfl fn_8 ?_
          refine r_iret dX10_sets_45 rfl ?_
          first | (exfalso; omega) | exact ⟨congrArg (fun q : Int => some ((0 : Nat), q)) (if_pos (by first | omega | assumption) : fzV M n ns p u = _).symm, by rw [if_pos (by first | omega | assumption)], (if_pos (by first | omega | assumption) : fzM M n ns p u = _).symm⟩ | exact ⟨congrArg (fun q : Int => some ((0 : Nat), q)) ((if_neg (by first | omega | assumption)).trans (if_pos (by first | omega | assumption)) : fzV M n ns p u = _).symm, by rw [if_neg (by first | omega | assumption)], (if_neg (by first | omega | assumption) : fzM M n ns p u = _).symm⟩ | exact ⟨congrArg (fun q : Int => some ((0 : Nat), q)) ((if_neg (by first | omega | assumption)).trans ((if_neg (by first | omega | assumption)).trans (if_pos (by first | omega | assumption))) : fzV M n ns p u = _).symm, by rw [if_neg (by first | omega | assumption)], (if_neg (by first | omega | assumption) : fzM M n ns p u = _).symm⟩ | exact ⟨congrArg (fun q : Int => some ((0 : Nat), q)) ((if_neg (by first | omega | assumption)).trans ((if_neg (by first | omega | assumption)).trans (if_neg (by first | omega | assumption))) : fzV M n ns p u = _).symm, by rw [if_neg (by first | omega | assumption)], (if_neg (by first | omega | assumption) : fzM M n ns p u = _).symm⟩
      · refine r_iconst dX10_sets_20 (by decide) ?_
        refine r_iret dX10_sets_21 rfl ?_
        first | (exfalso; omega) | exact ⟨congrArg (fun q : Int => some ((0 : Nat), q)) (if_pos (by first | omega | assumption) : fzV M n ns p u = _).symm, by rw [if_pos (by first | omega | assumption)], (if_pos (by first | omega | assumption) : fzM M n ns p u = _).symm⟩ | exact ⟨congrArg (fun q : Int => some ((0 : Nat), q)) ((if_neg (by first | omega | assumption)).trans (if_pos (by first | omega | assumption)) : fzV M n ns p u = _).symm, by rw [if_neg (by first | omega | assumption)], (if_neg (by first | omega | assumption) : fzM M n ns p u = _).symm⟩ | exact ⟨congrArg (fun q : Int => some ((0 : Nat), q)) ((if_neg (by first | omega | assumption)).trans ((if_neg (by first | omega | assumption)).trans (if_pos (by first | omega | assumption))) : fzV M n ns p u = _).symm, by rw [if_neg (by first | omega | assumption)], (if_neg (by first | omega | assumption) : fzM M n ns p u = _).symm⟩ | exact ⟨congrArg (fun q : Int => some ((0 : Nat), q)) ((if_neg (by first | omega | assumption)).trans ((if_neg (by first | omega | assumption)).trans (if_neg (by first | omega | assumption))) : fzV M n ns p u = _).symm, by rw [if_neg (by first | omega | assumption)], (if_neg (by first | omega | assumption) : fzM M n ns p u = _).symm⟩
theorem f_next {x y z : Int} {M : Me} {p : Int} (h : CI M) {n : Nat} (hn : M 50 3 = (n : Int)) (hn12 : n ≤ 12) {ns : Nat} (h6 : M 223 0 = (ns : Int)) (h68 : ns ≤ 8) (hs : ∀ j : Int, 0 ≤ j → j < 8 → 0 ≤ M 226 j ∧ M 226 j ≤ 999) (hw : ∀ j : Int, 0 ≤ j → j < 12 → 0 ≤ M 10 j ∧ M 10 j ≤ 100000) : Con kX10_next 16 0 0 [(1, 0), (0, p)] (Sf x y z) M (Ex (some (0, fnV M n ns p)) (Sf x (if ¬ (0 ≤ p ∧ p < M 50 2) then y else 49) z) (fnN M n ns p)) := by
  refine Con.ofV (al := [(1, 0), (0, p)]) 0 (by decide) (Nat.le_of_ble_eq_true rfl) rfl ?_
  have hm12 : fnm M p n ≤ 12 := by have : fnm M p n ≤ n := (fcS_b (M := M) (p := p) n).1; omega
  refine r_aload_n dX10_next_0 rfl (by decide) ?_
  refine r_getr (x := 49) dX10_next_1 flX10_52 sf0 (by decide) (by decide) rfl rfl ?_
  refine r_iload_n dX10_next_4 rfl ?_
  refine r_cv1 dX10_next_5 clX10_147 sf49 (by decide) (by decide) rfl (by first | decide | omega) (Nat.le_of_ble_eq_true rfl) (s_isPerson) ⟨Nat.zero_le _, Nat.zero_le _⟩ (fun _ => ?_)
  refine r_if_ne (tgt := 13) dX10_next_8 (by decide) (fun h8 => ?_) (fun h8 => ?_)
  · try have h8 := bi_1.mp h8
    refine r_aload_n dX10_next_13 rfl (by decide) ?_
    refine r_getr (x := 8) dX10_next_14 flX10_32 sf0 (by decide) (by decide) rfl rfl ?_
    refine r_aload_n dX10_next_17 rfl (by decide) ?_
    refine r_getr (x := 49) dX10_next_18 flX10_52 sf0 (by decide) (by decide) rfl rfl ?_
    refine r_iload_n dX10_next_21 rfl ?_
    refine r_cw2 dX10_next_22 clX10_252 sf8 (by decide) (by decide) rfl (by first | decide | omega) (Nat.le_of_ble_eq_true rfl) ((c_find h hn hn12 h6 h68 hs hw)) ⟨Nat.zero_le _, Nat.zero_le _⟩ ?_
    refine r_aload_n dX10_next_25 rfl (by decide) ?_
    refine r_getr (x := 8) dX10_next_26 flX10_32 sf0 (by decide) (by decide) rfl rfl ?_
    refine r_cv0 dX10_next_29 clX10_265 sf8 (by decide) (by decide) rfl (by first | decide | omega) (Nat.le_of_ble_eq_true rfl) ((c_asked fn_m hm12 fn_8 (by have := fn_F (M := M) (p := p) (n := n) (ns := ns) hn12; omega) (fun j h0 h1 => fn_10 hn12 hw j h0 (by omega)))) ⟨Nat.zero_le _, Nat.zero_le _⟩ (fun _ => ?_)
    refine r_iret dX10_next_32 rfl ?_
    first | (exfalso; omega) | exact ⟨congrArg (fun q : Int => some ((0 : Nat), q)) (if_pos (by first | omega | assumption) : fnV M n ns p = _).symm, by rw [if_pos (by first | omega | assumption)], (if_pos (by first | omega | assumption) : fnN M n ns p = _).symm⟩ | exact ⟨congrArg (fun q : Int => some ((0 : Nat), q)) (if_neg (by first | omega | assumption) : fnV M n ns p = _).symm, by rw [if_neg (by first | omega | assumption)], (if_neg (by first | omega | assumption) : fnN M n ns p = _).symm⟩
  · try have h8 := bi_0.mp h8
    refine r_iconst dX10_next_11 (by decide) ?_
    refine r_iret dX10_next_12 rfl ?_
    first | (exfalso; omega) | exact ⟨congrArg (fun q : Int => some ((0 : Nat), q)) (if_pos (by first | omega | assumption) : fnV M n ns p = _).symm, by rw [if_pos (by first | omega | assumption)], (if_pos (by first | omega | assumption) : fnN M n ns p = _).symm⟩ | exact ⟨congrArg (fun q : Int => some ((0 : Nat), q)) (if_neg (by first | omega | assumption) : fnV M n ns p = _).symm, by rw [if_neg (by first | omega | assumption)], (if_neg (by first | omega | assumption) : fnN M n ns p = _).symm⟩
abbrev flP (M : Me) (t c : Int) : Prop := t < 0 ∨ 99 < t ∨ c < 0 ∨ M 227 0 ≤ c
def flaV (M : Me) (n : Nat) (t b c : Int) : Int := if flP M t c then -1 else if b = 0 then t * M 228 c / (smW (fun i : Int => M 228 i) n) + zW (fun i : Int => M 228 i) t (smW (fun i : Int => M 228 i) n) n c else (tnS (fun i : Int => M 228 i) n t.toNat) c
def flaM (M : Me) (n : Nat) (t b c : Int) : Me := if flP M t c then M else if b = 0 then M else row1 M 14 6 (tnS (fun i : Int => M 228 i) n t.toNat)
theorem c_turnsI {x y z : Int} {M : Me} {n : Nat} (hn : M 227 0 = (n : Int)) (hn6 : n ≤ 6) (hw : ∀ i : Int, 0 ≤ i → i < n → 1 ≤ M 228 i ∧ M 228 i ≤ 999) {t c : Int} (ht : 0 ≤ t ∧ t ≤ 99) (hc : 0 ≤ c ∧ c < n) : Con kX5_laughsByTurns 0 0 0 [(1, 12), (1, 227), (0, t), (0, c)] (Sf x y z) M (Ex (some (0, (tnS (fun i : Int => M 228 i) n t.toNat) c)) (Sf x y z) (row1 M 14 6 (tnS (fun i : Int => M 228 i) n t.toNat))) := by
  obtain ⟨t, rfl⟩ := Int.eq_ofNat_of_zero_le ht.1
  exact c_laughsByTurns hn (by omega) hn6 hw (by omega) (by omega)
theorem f_laughs {x y z : Int} {M : Me} {t b c : Int} {n : Nat} (hn : M 227 0 = (n : Int)) (hn6 : n ≤ 6) (hw : ∀ i : Int, 0 ≤ i → i < n → 1 ≤ M 228 i ∧ M 228 i ≤ 999) : Con kX10_laughs 1 0 0 [(1, 0), (0, t), (0, b), (0, c)] (Sf x y z) M (Ex (some (0, flaV M n t b c)) (Sf x y z) (flaM M n t b c)) := by
  refine Con.ofV (al := [(1, 0), (0, t), (0, b), (0, c)]) 0 (by decide) (Nat.le_of_ble_eq_true rfl) rfl ?_
  refine r_iload_n dX10_laughs_0 rfl ?_
  refine r_if_lt (tgt := 28) dX10_laughs_1 (by decide) (fun h1 => ?_) (fun h1 => ?_)
  · refine r_iconst dX10_laughs_28 (by decide) ?_
    refine r_iret dX10_laughs_29 rfl ?_
    first | (exfalso; omega) | exact ⟨by unfold flaV; rw [if_pos (by first | omega | assumption)] <;> rfl, rfl, by unfold flaM; rw [if_pos (by first | omega | assumption)] <;> rfl⟩ | exact ⟨by unfold flaV; rw [if_neg (by first | omega | assumption), if_pos (by first | omega | assumption)] <;> rfl, rfl, by unfold flaM; rw [if_neg (by first | omega | assumption), if_pos (by first | omega | assumption)] <;> rfl⟩ | exact ⟨by unfold flaV; rw [if_neg (by first | omega | assumption), if_neg (by first | omega | assumption)] <;> rfl, rfl, by unfold flaM; rw [if_neg (by first | omega | assumption), if_neg (by first | omega | assumption)] <;> rfl⟩
  · refine r_iload_n dX10_laughs_4 rfl ?_
    refine r_bipush dX10_laughs_5 (by decide) (by decide) ?_
    refine r_icmp_gt (tgt := 28) dX10_laughs_7 (by decide) (fun h7 => ?_) (fun h7 => ?_)
    · refine r_iconst dX10_laughs_28 (by decide) ?_
      refine r_iret dX10_laughs_29 rfl ?_
      first | (exfalso; omega) | exact ⟨by unfold flaV; rw [if_pos (by first | omega | assumption)] <;> rfl, rfl, by unfold flaM; rw [if_pos (by first | omega | assumption)] <;> rfl⟩ | exact ⟨by unfold flaV; rw [if_neg (by first | omega | assumption), if_pos (by first | omega | assumption)] <;> rfl, rfl, by unfold flaM; rw [if_neg (by first | omega | assumption), if_pos (by first | omega | assumption)] <;> rfl⟩ | exact ⟨by unfold flaV; rw [if_neg (by first | omega | assumption), if_neg (by first | omega | assumption)] <;> rfl, rfl, by unfold flaM; rw [if_neg (by first | omega | assumption), if_neg (by first | omega | assumption)] <;> rfl⟩
    · refine r_iload_n dX10_laughs_10 rfl ?_
      refine r_if_lt (tgt := 28) dX10_laughs_11 (by decide) (fun h11 => ?_) (fun h11 => ?_)
      · refine r_iconst dX10_laughs_28 (by decide) ?_
        refine r_iret dX10_laughs_29 rfl ?_
        first | (exfalso; omega) | exact ⟨by unfold flaV; rw [if_pos (by first | omega | assumption)] <;> rfl, rfl, by unfold flaM; rw [if_pos (by first | omega | assumption)] <;> rfl⟩ | exact ⟨by unfold flaV; rw [if_neg (by first | omega | assumption), if_pos (by first | omega | assumption)] <;> rfl, rfl, by unfold flaM; rw [if_neg (by first | omega | assumption), if_pos (by first | omega | assumption)] <;> rfl⟩ | exact ⟨by unfold flaV; rw [if_neg (by first | omega | assumption), if_neg (by first | omega | assumption)] <;> rfl, rfl, by unfold flaM; rw [if_neg (by first | omega | assumption), if_neg (by first | omega | assumption)] <;> rfl⟩
      · refine r_iload_n dX10_laughs_14 rfl ?_
        refine r_aload_n dX10_laughs_15 rfl (by decide) ?_
        refine r_getr (x := 49) dX10_laughs_16 flX10_52 sf0 (by decide) (by decide) rfl rfl ?_
        refine r_getr (x := 227) dX10_laughs_19 flX10_268 sf49 (by decide) (by decide) rfl rfl ?_
        refine r_gi 0 dX10_laughs_22 flX10_232 sf227 (by decide) (by decide) rfl rfl hn ?_
        refine r_icmp_lt (tgt := 30) dX10_laughs_25 (by decide) (fun h25 => ?_) (fun h25 => ?_)
        · refine r_iload_n dX10_laughs_30 rfl ?_
          refine r_if_eq (tgt := 53) dX10_laughs_31 (by decide) (fun h31 => ?_) (fun h31 => ?_)
          · refine r_aload_n dX10_laughs_53 rfl (by decide) ?_
            refine r_getr (x := 12) dX10_laughs_54 flX10_39 sf0 (by decide) (by decide) rfl rfl ?_
            refine r_aload_n dX10_laughs_57 rfl (by decide) ?_
            refine r_getr (x := 49) dX10_laughs_58 flX10_52 sf0 (by decide) (by decide) rfl rfl ?_
            refine r_getr (x := 227) dX10_laughs_61 flX10_268 sf49 (by decide) (by decide) rfl rfl ?_
            refine r_iload_n dX10_laughs_64 rfl ?_
            refine r_iload_n dX10_laughs_65 rfl ?_
            refine r_cv3 dX10_laughs_66 clX10_275 sf12 (by decide) (by decide) rfl (by first | decide | omega) (Nat.le_of_ble_eq_true rfl) ((c_wholeLaughs hn hn6 hw (by omega) (by omega))) ⟨Nat.zero_le _, Nat.zero_le _⟩ (fun _ => ?_)
            refine r_iret dX10_laughs_69 rfl ?_
            first | (exfalso; omega) | exact ⟨by unfold flaV; rw [if_pos (by first | omega | assumption)] <;> rfl, rfl, by unfold flaM; rw [if_pos (by first | omega | assumption)] <;> rfl⟩ | exact ⟨by unfold flaV; rw [if_neg (by first | omega | assumption), if_pos (by first | omega | assumption)] <;> rfl, rfl, by unfold flaM; rw [if_neg (by first | omega | assumption), if_pos (by first | omega | assumption)] <;> rfl⟩ | exact ⟨by unfold flaV; rw [if_neg (by first | omega | assumption), if_neg (by first | omega | assumption)] <;> rfl, rfl, by unfold flaM; rw [if_neg (by first | omega | assumption), if_neg (by first | omega | assumption)] <;> rfl⟩
          · refine r_aload_n dX10_laughs_34 rfl (by decide) ?_
            refine r_getr (x := 12) dX10_laughs_35 flX10_39 sf0 (by decide) (by decide) rfl rfl ?_
            refine r_aload_n dX10_laughs_38 rfl (by decide) ?_
            refine r_getr (x := 49) dX10_laughs_39 flX10_52 sf0 (by decide) (by decide) rfl rfl ?_
            refine r_getr (x := 227) dX10_laughs_42 flX10_268 sf49 (by decide) (by decide) rfl rfl ?_
            refine r_iload_n dX10_laughs_45 rfl ?_
            refine r_iload_n dX10_laughs_46 rfl ?_
            refine r_cv3 dX10_laughs_47 clX10_271 sf12 (by decide) (by decide) rfl (by first | decide | omega) (Nat.le_of_ble_eq_true rfl) ((c_turnsI hn hn6 hw (by omega) (by omega))) ⟨Nat.zero_le _, Nat.zero_le _⟩ (fun _ => ?_)
            refine r_goto (tgt := 69) dX10_laughs_50 (by decide) ?_
            refine r_iret dX10_laughs_69 rfl ?_
            first | (exfalso; omega) | exact ⟨by unfold flaV; rw [if_pos (by first | omega | assumption)] <;> rfl, rfl, by unfold flaM; rw [if_pos (by first | omega | assumption)] <;> rfl⟩ | exact ⟨by unfold flaV; rw [if_neg (by first | omega | assumption), if_pos (by first | omega | assumption)] <;> rfl, rfl, by unfold flaM; rw [if_neg (by first | omega | assumption), if_pos (by first | omega | assumption)] <;> rfl⟩ | exact ⟨by unfold flaV; rw [if_neg (by first | omega | assumption), if_neg (by first | omega | assumption)] <;> rfl, rfl, by unfold flaM; rw [if_neg (by first | omega | assumption), if_neg (by first | omega | assumption)] <;> rfl⟩
        · refine r_iconst dX10_laughs_28 (by decide) ?_
          refine r_iret dX10_laughs_29 rfl ?_
          first | (exfalso; omega) | exact ⟨by unfold flaV; rw [if_pos (by first | omega | assumption)] <;> rfl, rfl, by unfold flaM; rw [if_pos (by first | omega | assumption)] <;> rfl⟩ | exact ⟨by unfold flaV; rw [if_neg (by first | omega | assumption), if_pos (by first | omega | assumption)] <;> rfl, rfl, by unfold flaM; rw [if_neg (by first | omega | assumption), if_pos (by first | omega | assumption)] <;> rfl⟩ | exact ⟨by unfold flaV; rw [if_neg (by first | omega | assumption), if_neg (by first | omega | assumption)] <;> rfl, rfl, by unfold flaM; rw [if_neg (by first | omega | assumption), if_neg (by first | omega | assumption)] <;> rfl⟩
def fprV (M : Me) (n : Nat) (u : Int) : Int := if u = 0 then bpC M n n else tkC M (bpC M n n) n
theorem f_price {x y z : Int} {M : Me} {u : Int} {n : Nat} (hn : M 231 0 = (n : Int)) (hn8 : n ≤ 8) (ho : ∀ k : Int, 0 ≤ k → k < n → 0 ≤ M 232 k ∧ M 232 k ≤ 999) : Con kX10_price 2 0 0 [(1, 0), (0, u)] (Sf x y z) M (Ex (some (0, fprV M n u)) (Sf x y z) M) := by
  refine Con.ofV (al := [(1, 0), (0, u), (9, 0)]) 1 (by decide) (Nat.le_of_ble_eq_true rfl) rfl ?_
  have hb := bpC_b (M := M) ho n (Nat.le_refl n)
  refine r_aload_n dX10_price_0 rfl (by decide) ?_
  refine r_getr (x := 12) dX10_price_1 flX10_39 sf0 (by decide) (by decide) rfl rfl ?_
  refine r_aload_n dX10_price_4 rfl (by decide) ?_
  refine r_getr (x := 49) dX10_price_5 flX10_52 sf0 (by decide) (by decide) rfl rfl ?_
  refine r_getr (x := 231) dX10_price_8 flX10_278 sf49 (by decide) (by decide) rfl rfl ?_
  refine r_cv1 dX10_price_11 clX10_281 sf12 (by decide) (by decide) rfl (by first | decide | omega) (Nat.le_of_ble_eq_true rfl) ((c_bestPrice hn hn8 ho)) ⟨Nat.zero_le _, Nat.zero_le _⟩ (fun _ => ?_)
  refine r_istore_n dX10_price_14 rfl (by decide) st2 ?_
  refine r_iload_n dX10_price_15 rfl ?_
  refine r_if_eq (tgt := 37) dX10_price_16 (by decide) (fun h16 => ?_) (fun h16 => ?_)
  · refine r_iload_n dX10_price_37 rfl ?_
    refine r_iret dX10_price_38 rfl ?_
    first | (exfalso; omega) | exact ⟨by unfold fprV; rw [if_pos (by first | omega | assumption)], rfl, rfl⟩ | exact ⟨by unfold fprV; rw [if_neg (by first | omega | assumption)], rfl, rfl⟩
  · refine r_aload_n dX10_price_19 rfl (by decide) ?_
    refine r_getr (x := 12) dX10_price_20 flX10_39 sf0 (by decide) (by decide) rfl rfl ?_
    refine r_aload_n dX10_price_23 rfl (by decide) ?_
    refine r_getr (x := 49) dX10_price_24 flX10_52 sf0 (by decide) (by decide) rfl rfl ?_
    refine r_getr (x := 231) dX10_price_27 flX10_278 sf49 (by decide) (by decide) rfl rfl ?_
    refine r_iload_n dX10_price_30 rfl ?_
    refine r_cv2 dX10_price_31 clX10_285 sf12 (by decide) (by decide) rfl (by first | decide | omega) (Nat.le_of_ble_eq_true rfl) ((c_takings hn hn8 hb)) ⟨Nat.zero_le _, Nat.zero_le _⟩ (fun _ => ?_)
    refine r_goto (tgt := 38) dX10_price_34 (by decide) ?_
    refine r_iret dX10_price_38 rfl ?_
    first | (exfalso; omega) | exact ⟨by unfold fprV; rw [if_pos (by first | omega | assumption)], rfl, rfl⟩ | exact ⟨by unfold fprV; rw [if_neg (by first | omega | assumption)], rfl, rfl⟩
abbrev fwP (n l a b : Int) : Prop := (1 ≤ n ∧ n ≤ 9) ∧ (0 ≤ l ∧ l ≤ 9) ∧ (0 ≤ a ∧ a ≤ 10) ∧ (0 ≤ b ∧ b ≤ 10)
def fwV (n l a b f : Int) : Int := if fwP n l a b then wrA2 n.toNat (a * (10 - b)).toNat l.toNat f else -1
theorem wrS_9 {n p l : Nat} (hn : n ≤ 9) (hp : p ≤ 100) : 0 ≤ wrS n p l (n + 1 - l) ∧ wrS n p l (n + 1 - l) ≤ 1000000000000000000 := by
  by_cases h : l ≤ n
  · have h1 := wrS_0 hn hp (l := l) (n + 1 - l) (by omega)
    have h2 := wr_b n hn p hp n (Nat.le_refl n)
    have e2 : wrS n p 0 (n + 1) = wrS n p 0 n + wrT n p (0 + n) := rfl
    rw [Nat.zero_add] at e2
    rw [show l + (n + 1 - l) = n + 1 by omega] at h1
    omega
  · rw [show n + 1 - l = 0 by omega]
    exact (show (0 : Int) ≤ 0 ∧ (0 : Int) ≤ 1000000000000000000 by decide)
theorem c_waysI {x y z : Int} {M : Me} {n p l : Int} (hn : 0 ≤ n ∧ n ≤ 9) (hp : 0 ≤ p ∧ p ≤ 100) (hl : 0 ≤ l) : Con kX5_wrongWays 1 0 0 [(1, 12), (0, n), (0, l), (0, p)] (Sf x y z) M (Ex (some (2, wrS n.toNat p.toNat l.toNat (n.toNat + 1 - l.toNat))) (Sf x y z) M) := by
  obtain ⟨n, rfl⟩ := Int.eq_ofNat_of_zero_le hn.1
  obtain ⟨p, rfl⟩ := Int.eq_ofNat_of_zero_le hp.1
  obtain ⟨l, rfl⟩ := Int.eq_ofNat_of_zero_le hl
  exact c_wrongWays (by omega) (by omega)
theorem c_powI {S : Sh} {M : Me} {b n : Int} (h0 : 0 ≤ b) (h1 : b ≤ 100) (hn : 0 ≤ n ∧ n ≤ 9) : Con kX5_power 0 0 0 [(1, 12), (2, b), (0, n)] S M (Ex (some (2, pwI b n.toNat)) S M) := by
  obtain ⟨n, rfl⟩ := Int.eq_ofNat_of_zero_le hn.1
  exact c_powerC h0 h1 (by omega)
theorem f_wrongly {x y z : Int} {M : Me} {n l a b f : Int} : Con kX10_wrongly 2 0 0 [(1, 0), (0, n), (0, l), (0, a), (0, b), (0, f)] (Sf x y z) M (Ex (some (2, fwV n l a b f)) (Sf x y z) M) := by
  refine Con.ofV (al := [(1, 0), (0, n), (0, l), (0, a), (0, b), (0, f), (9, 0), (9, 0), (9, 0), (9, 0), (9, 0), (9, 0)]) 6 (by decide) (Nat.le_of_ble_eq_true rfl) rfl ?_
  refine r_iload_n dX10_wrongly_0 rfl ?_
  refine r_iconst dX10_wrongly_1 (by decide) ?_
  refine r_icmp_lt (tgt := 43) dX10_wrongly_2 (by decide) (fun h2 => ?_) (fun h2 => ?_)
  · refine r_ldc2 (x := -1) dX10_wrongly_43 ctX10_289 (by decide) ?_
    refine r_lret dX10_wrongly_46 rfl ?_
    first | (exfalso; omega) | exact ⟨by unfold fwV; rw [if_neg (by omega)], rfl, rfl⟩ | exact ⟨by unfold fwV wrA2; rw [if_pos (by omega), if_pos (by assumption)], rfl, rfl⟩ | exact ⟨by unfold fwV wrA2; rw [if_pos (by omega), if_neg (by assumption)], rfl, rfl⟩
  · refine r_iload_n dX10_wrongly_5 rfl ?_
    refine r_bipush dX10_wrongly_6 (by decide) (by decide) ?_
    refine r_icmp_gt (tgt := 43) dX10_wrongly_8 (by decide) (fun h8 => ?_) (fun h8 => ?_)
    · refine r_ldc2 (x := -1) dX10_wrongly_43 ctX10_289 (by decide) ?_
      refine r_lret dX10_wrongly_46 rfl ?_
      first | (exfalso; omega) | exact ⟨by unfold fwV; rw [if_neg (by omega)], rfl, rfl⟩ | exact ⟨by unfold fwV wrA2; rw [if_pos (by omega), if_pos (by assumption)], rfl, rfl⟩ | exact ⟨by unfold fwV wrA2; rw [if_pos (by omega), if_neg (by assumption)], rfl, rfl⟩
    · refine r_iload_n dX10_wrongly_11 rfl ?_
      refine r_if_lt (tgt := 43) dX10_wrongly_12 (by decide) (fun h12 => ?_) (fun h12 => ?_)
      · refine r_ldc2 (x := -1) dX10_wrongly_43 ctX10_289 (by decide) ?_
        refine r_lret dX10_wrongly_46 rfl ?_
        first | (exfalso; omega) | exact ⟨by unfold fwV; rw [if_neg (by omega)], rfl, rfl⟩ | exact ⟨by unfold fwV wrA2; rw [if_pos (by omega), if_pos (by assumption)], rfl, rfl⟩ | exact ⟨by unfold fwV wrA2; rw [if_pos (by omega), if_neg (by assumption)], rfl, rfl⟩
      · refine r_iload_n dX10_wrongly_15 rfl ?_
        refine r_bipush dX10_wrongly_16 (by decide) (by decide) ?_
        refine r_icmp_gt (tgt := 43) dX10_wrongly_18 (by decide) (fun h18 => ?_) (fun h18 => ?_)
        · refine r_ldc2 (x := -1) dX10_wrongly_43 ctX10_289 (by decide) ?_
          refine r_lret dX10_wrongly_46 rfl ?_
          first | (exfalso; omega) | exact ⟨by unfold fwV; rw [if_neg (by omega)], rfl, rfl⟩ | exact ⟨by unfold fwV wrA2; rw [if_pos (by omega), if_pos (by assumption)], rfl, rfl⟩ | exact ⟨by unfold fwV wrA2; rw [if_pos (by omega), if_neg (by assumption)], rfl, rfl⟩
        · refine r_iload_n dX10_wrongly_21 rfl ?_
          refine r_if_lt (tgt := 43) dX10_wrongly_22 (by decide) (fun h22 => ?_) (fun h22 => ?_)
          · refine r_ldc2 (x := -1) dX10_wrongly_43 ctX10_289 (by decide) ?_
            refine r_lret dX10_wrongly_46 rfl ?_
            first | (exfalso; omega) | exact ⟨by unfold fwV; rw [if_neg (by omega)], rfl, rfl⟩ | exact ⟨by unfold fwV wrA2; rw [if_pos (by omega), if_pos (by assumption)], rfl, rfl⟩ | exact ⟨by unfold fwV wrA2; rw [if_pos (by omega), if_neg (by assumption)], rfl, rfl⟩
          · refine r_iload_n dX10_wrongly_25 rfl ?_
            refine r_bipush dX10_wrongly_26 (by decide) (by decide) ?_
            refine r_icmp_gt (tgt := 43) dX10_wrongly_28 (by decide) (fun h28 => ?_) (fun h28 => ?_)
            · refine r_ldc2 (x := -1) dX10_wrongly_43 ctX10_289 (by decide) ?_
              refine r_lret dX10_wrongly_46 rfl ?_
              first | (exfalso; omega) | exact ⟨by unfold fwV; rw [if_neg (by omega)], rfl, rfl⟩ | exact ⟨by unfold fwV wrA2; rw [if_pos (by omega), if_pos (by assumption)], rfl, rfl⟩ | exact ⟨by unfold fwV wrA2; rw [if_pos (by omega), if_neg (by assumption)], rfl, rfl⟩
            · refine r_iload dX10_wrongly_31 rfl ?_
              refine r_if_lt (tgt := 43) dX10_wrongly_33 (by decide) (fun h33 => ?_) (fun h33 => ?_)
              · refine r_ldc2 (x := -1) dX10_wrongly_43 ctX10_289 (by decide) ?_
                refine r_lret dX10_wrongly_46 rfl ?_
                first | (exfalso; omega) | exact ⟨by unfold fwV; rw [if_neg (by omega)], rfl, rfl⟩ | exact ⟨by unfold fwV wrA2; rw [if_pos (by omega), if_pos (by assumption)], rfl, rfl⟩ | exact ⟨by unfold fwV wrA2; rw [if_pos (by omega), if_neg (by assumption)], rfl, rfl⟩
              · refine r_iload dX10_wrongly_36 rfl ?_
                refine r_bipush dX10_wrongly_38 (by decide) (by decide) ?_
                refine r_icmp_le (tgt := 47) dX10_wrongly_40 (by decide) (fun h40 => ?_) (fun h40 => ?_)
                · refine r_aload_n dX10_wrongly_47 rfl (by decide) ?_
                  refine r_getr (x := 12) dX10_wrongly_48 flX10_39 sf0 (by decide) (by decide) rfl rfl ?_
                  refine r_iload_n dX10_wrongly_51 rfl ?_
                  refine r_iload_n dX10_wrongly_52 rfl ?_
                  refine r_iload_n dX10_wrongly_53 rfl ?_
                  refine r_bipush dX10_wrongly_54 (by decide) (by decide) ?_
                  refine r_iload dX10_wrongly_56 rfl ?_
                  refine r_isub dX10_wrongly_58 (w32_id (by omega)) ?_
                  have hp0 := mb2 (a := a) (b := 10 - b) (by omega) (by omega)
                  have hp1 : a * (10 - b) ≤ 10 * 10 := Int.mul_le_mul (by omega) (by omega) (by omega) (by decide)
                  refine r_imul dX10_wrongly_59 (w32_id (by omega)) ?_
                  refine r_cv3 dX10_wrongly_60 clX10_291 sf12 (by decide) (by decide) rfl (by first | decide | omega) (Nat.le_of_ble_eq_true rfl) ((c_waysI (by omega) (by omega) (by omega))) ⟨Nat.zero_le _, Nat.zero_le _⟩ (fun _ => ?_)
                  refine r_lstore dX10_wrongly_63 rfl (by decide) sl6 ?_
                  refine r_aload_n dX10_wrongly_65 rfl (by decide) ?_
                  refine r_getr (x := 12) dX10_wrongly_66 flX10_39 sf0 (by decide) (by decide) rfl rfl ?_
                  refine r_ldc2 (x := 100) dX10_wrongly_69 ctX10_295 (by decide) ?_
                  refine r_iload_n dX10_wrongly_72 rfl ?_
                  refine r_cv2 dX10_wrongly_73 clX10_297 sf12 (by decide) (by decide) rfl (by first | decide | omega) (Nat.le_of_ble_eq_true rfl) ((c_powI (by decide) (by decide) (by omega))) ⟨Nat.zero_le _, Nat.zero_le _⟩ (fun _ => ?_)
                  refine r_lstore dX10_wrongly_76 rfl (by decide) sl8 ?_
                  refine r_aload_n dX10_wrongly_78 rfl (by decide) ?_
                  refine r_getr (x := 12) dX10_wrongly_79 flX10_39 sf0 (by decide) (by decide) rfl rfl ?_
                  refine r_lload dX10_wrongly_82 rfl ?_
                  refine r_lload dX10_wrongly_84 rfl ?_
                  have hb := pwI_b (b := 100) (by decide) (by decide) (i := n.toNat) (by omega)
                  have hb2 := pwI_1 (b := 100) (by decide) n.toNat
                  have hb3 := wrS_9 (n := n.toNat) (p := (a * (10 - b)).toNat) (l := l.toNat) (by omega) (by omega)
                  have hg : (Nat.gcd (wrS n.toNat (a * (10 - b)).toNat l.toNat (n.toNat + 1 - l.toNat)).toNat (pwI 100 n.toNat).toNat : Int) ≠ 0 := by
                    have := Nat.gcd_pos_of_pos_right (wrS n.toNat (a * (10 - b)).toNat l.toNat (n.toNat + 1 - l.toNat)).toNat (show 0 < (pwI 100 n.toNat).toNat by omega)
                    omega
                  refine r_cv2 dX10_wrongly_86 clX10_301 sf12 (by decide) (by decide) rfl (by first | decide | omega) (Nat.le_of_ble_eq_true rfl) ((c_commonPart (by omega) (by omega))) ⟨Nat.zero_le _, Nat.zero_le _⟩ (fun _ => ?_)
                  refine r_lstore dX10_wrongly_89 rfl (by decide) sl10 ?_
                  refine r_iload dX10_wrongly_91 rfl ?_
                  refine r_if_eq (tgt := 101) dX10_wrongly_93 (by decide) (fun h93 => ?_) (fun h93 => ?_)
                  · refine r_lload dX10_wrongly_101 rfl ?_
                    refine r_lload dX10_wrongly_103 rfl ?_
                    refine r_lconst (x := 0) dX10_wrongly_105 rfl (by decide) ?_
                    refine r_lcmp dX10_wrongly_106 ?_
                    refine r_if_ne (tgt := 114) dX10_wrongly_107 (by decide) (fun h107 => ?_) (fun h107 => by exfalso; replace h107 := lc_eq.mp h107; omega)
                    replace h107 := lc_ne.mp h107
                    refine r_lload dX10_wrongly_114 rfl ?_
                    refine r_ldiv dX10_wrongly_116 hg (dbg (by omega)) ?_
                    refine r_lret dX10_wrongly_117 rfl ?_
                    first | (exfalso; omega) | exact ⟨by unfold fwV; rw [if_neg (by omega)], rfl, rfl⟩ | exact ⟨by unfold fwV wrA2; rw [if_pos (by omega), if_pos (by assumption)], rfl, rfl⟩ | exact ⟨by unfold fwV wrA2; rw [if_pos (by omega), if_neg (by assumption)], rfl, rfl⟩
                  · refine r_lload dX10_wrongly_96 rfl ?_
                    refine r_goto (tgt := 103) dX10_wrongly_98 (by decide) ?_
                    refine r_lload dX10_wrongly_103 rfl ?_
                    refine r_lconst (x := 0) dX10_wrongly_105 rfl (by decide) ?_
                    refine r_lcmp dX10_wrongly_106 ?_
                    refine r_if_ne (tgt := 114) dX10_wrongly_107 (by decide) (fun h107 => ?_) (fun h107 => by exfalso; replace h107 := lc_eq.mp h107; omega)
                    replace h107 := lc_ne.mp h107
                    refine r_lload dX10_wrongly_114 rfl ?_
                    refine r_ldiv dX10_wrongly_116 hg (dbg (by omega)) ?_
                    refine r_lret dX10_wrongly_117 rfl ?_
                    first | (exfalso; omega) | exact ⟨by unfold fwV; rw [if_neg (by omega)], rfl, rfl⟩ | exact ⟨by unfold fwV wrA2; rw [if_pos (by omega), if_pos (by assumption)], rfl, rfl⟩ | exact ⟨by unfold fwV wrA2; rw [if_pos (by omega), if_neg (by assumption)], rfl, rfl⟩
                · refine r_ldc2 (x := -1) dX10_wrongly_43 ctX10_289 (by decide) ?_
                  refine r_lret dX10_wrongly_46 rfl ?_
                  first | (exfalso; omega) | exact ⟨by unfold fwV; rw [if_neg (by omega)], rfl, rfl⟩ | exact ⟨by unfold fwV wrA2; rw [if_pos (by omega), if_pos (by assumption)], rfl, rfl⟩ | exact ⟨by unfold fwV wrA2; rw [if_pos (by omega), if_neg (by assumption)], rfl, rfl⟩
