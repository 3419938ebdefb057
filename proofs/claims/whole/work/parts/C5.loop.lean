theorem law_head {lx : List Int} (hl : lx.length ≤ 3072) {n1 n2 : Nat} (hn : n1 ≤ 600000 ∧ n2 ≤ 7302250) : ∀ (m : Nat) (i : Int) (x y z : Int) (M : Me), INV M → 0 ≤ i → i ≤ 3072 → (lx.length : Int) + 1 ≤ i + 6 * (m : Int) + 6 → LV lx 18 i (Sf x y z) M n1 n2 := by
  intro m
  induction m with
  | zero =>
    intro i x y z M hI h0 h3 hm
    refine r_iload_n dL_law_18 rfl ?_
    refine r_sload_n dL_law_19 rfl ?_
    refine r_slen dL_law_20 ?_
    refine r_bipush dL_law_21 (by decide) (by decide) ?_
    refine r_isub dL_law_23 (w32_id (by omega)) ?_
    refine r_icmp_gt (tgt := 1547) dL_law_24 (by decide) (fun h24 => ?_) (fun h24 => by exfalso; omega)
    refine r_iconst dL_law_1547 (by decide) ?_
    exact r_zret dL_law_1548 rfl (by decide) rfl
  | succ m ih =>
    intro i x y z M hI h0 h3 hm
    refine r_iload_n dL_law_18 rfl ?_
    refine r_sload_n dL_law_19 rfl ?_
    refine r_slen dL_law_20 ?_
    refine r_bipush dL_law_21 (by decide) (by decide) ?_
    refine r_isub dL_law_23 (w32_id (by omega)) ?_
    refine r_icmp_gt (tgt := 1547) dL_law_24 (by decide) (fun h24 => ?_) (fun h24 => ?_)
    · refine r_iconst dL_law_1547 (by decide) ?_
      exact r_zret dL_law_1548 rfl (by decide) rfl
    · have hi : 0 ≤ i ∧ i + 6 ≤ (lx.length : Int) := by omega
      have nx : LNX lx i n1 n2 := fun x y z M hI => by
        refine r_iinc dL_law_1541 rfl rfl (by decide) (w32_id (by omega)) st3 ?_
        refine r_goto (tgt := 18) dL_law_1544 (by decide) ?_
        exact ih (i + 6) x y z M hI (by omega) (by omega) (by omega)
      refine r_sload_n dL_law_27 rfl ?_
      refine r_iload_n dL_law_28 rfl ?_
      refine r_sld dL_law_29 (by omega) (by omega) rfl ?_
      refine r_bipush dL_law_30 (by decide) (by decide) ?_
      refine r_iand dL_law_32 rfl ?_
      generalize and32 (lx.getD i.toNat 0) 63 = v
      rcases (show v = 0 ∨ v = 1 ∨ v = 2 ∨ v = 3 ∨ v = 4 ∨ v = 5 ∨ v = 6 ∨ v = 7 ∨ v = 8 ∨ v = 9 ∨ v = 10 ∨ v = 11 ∨ v = 12 ∨ v = 13 ∨ v = 14 ∨ v = 15 ∨ v = 16 ∨ v = 17 ∨ v = 18 ∨ v = 19 ∨ v = 20 ∨ v = 21 ∨ v = 22 ∨ v = 23 ∨ v = 24 ∨ v = 25 ∨ v = 26 ∨ v = 27 ∨ v = 28 ∨ v = 29 ∨ v = 30 ∨ v = 31 ∨ v = 32 ∨ v = 33 ∨ v = 34 ∨ v = 35 ∨ v = 36 ∨ v = 37 ∨ v = 38 ∨ v = 39 ∨ v = 40 ∨ v = 41 ∨ v = 42 ∨ v = 43 ∨ (v < 0 ∨ 43 < v) by omega) with q | q | q | q | q | q | q | q | q | q | q | q | q | q | q | q | q | q | q | q | q | q | q | q | q | q | q | q | q | q | q | q | q | q | q | q | q | q | q | q | q | q | q | q | q
      · exact r_tabEq dL_law_33 q (by decide) (by decide) rfl (by decide) (law_0 hI hi hl hn nx)
      · exact r_tabEq dL_law_33 q (by decide) (by decide) rfl (by decide) (law_1 hI hi hl hn nx)
      · exact r_tabEq dL_law_33 q (by decide) (by decide) rfl (by decide) (law_2 hI hi hl hn nx)
      · exact r_tabEq dL_law_33 q (by decide) (by decide) rfl (by decide) (law_3 hI hi hl hn nx)
      · exact r_tabEq dL_law_33 q (by decide) (by decide) rfl (by decide) (law_4 hI hi hl hn nx)
      · exact r_tabEq dL_law_33 q (by decide) (by decide) rfl (by decide) (law_5 hI hi hl hn nx)
      · exact r_tabEq dL_law_33 q (by decide) (by decide) rfl (by decide) (law_6 hI hi hl hn nx)
      · exact r_tabEq dL_law_33 q (by decide) (by decide) rfl (by decide) (law_7 hI hi hl hn nx)
      · exact r_tabEq dL_law_33 q (by decide) (by decide) rfl (by decide) (law_8 hI hi hl hn nx)
      · exact r_tabEq dL_law_33 q (by decide) (by decide) rfl (by decide) (law_9 hI hi hl hn nx)
      · exact r_tabEq dL_law_33 q (by decide) (by decide) rfl (by decide) (law_10 hI hi hl hn nx)
      · exact r_tabEq dL_law_33 q (by decide) (by decide) rfl (by decide) (law_11 hI hi hl hn nx)
      · exact r_tabEq dL_law_33 q (by decide) (by decide) rfl (by decide) (law_12 hI hi hl hn nx)
      · exact r_tabEq dL_law_33 q (by decide) (by decide) rfl (by decide) (law_13 hI hi hl hn nx)
      · exact r_tabEq dL_law_33 q (by decide) (by decide) rfl (by decide) (law_14 hI hi hl hn nx)
      · exact r_tabEq dL_law_33 q (by decide) (by decide) rfl (by decide) (law_15 hI hi hl hn nx)
      · exact r_tabEq dL_law_33 q (by decide) (by decide) rfl (by decide) (law_16 hI hi hl hn nx)
      · exact r_tabEq dL_law_33 q (by decide) (by decide) rfl (by decide) (law_17 hI hi hl hn nx)
      · exact r_tabEq dL_law_33 q (by decide) (by decide) rfl (by decide) (law_18 hI hi hl hn nx)
      · exact r_tabEq dL_law_33 q (by decide) (by decide) rfl (by decide) (law_19 hI hi hl hn nx)
      · exact r_tabEq dL_law_33 q (by decide) (by decide) rfl (by decide) (law_20 hI hi hl hn nx)
      · exact r_tabEq dL_law_33 q (by decide) (by decide) rfl (by decide) (law_21 hI hi hl hn nx)
      · exact r_tabEq dL_law_33 q (by decide) (by decide) rfl (by decide) (law_22 hI hi hl hn nx)
      · exact r_tabEq dL_law_33 q (by decide) (by decide) rfl (by decide) (law_23 hI hi hl hn nx)
      · exact r_tabEq dL_law_33 q (by decide) (by decide) rfl (by decide) (law_24 hI hi hl hn nx)
      · exact r_tabEq dL_law_33 q (by decide) (by decide) rfl (by decide) (law_25 hI hi hl hn nx)
      · exact r_tabEq dL_law_33 q (by decide) (by decide) rfl (by decide) (law_26 hI hi hl hn nx)
      · exact r_tabEq dL_law_33 q (by decide) (by decide) rfl (by decide) (law_27 hI hi hl hn nx)
      · exact r_tabEq dL_law_33 q (by decide) (by decide) rfl (by decide) (law_28 hI hi hl hn nx)
      · exact r_tabEq dL_law_33 q (by decide) (by decide) rfl (by decide) (law_29 hI hi hl hn nx)
      · exact r_tabEq dL_law_33 q (by decide) (by decide) rfl (by decide) (law_30 hI hi hl hn nx)
      · exact r_tabEq dL_law_33 q (by decide) (by decide) rfl (by decide) (law_31 hI hi hl hn nx)
      · exact r_tabEq dL_law_33 q (by decide) (by decide) rfl (by decide) (law_32 hI hi hl hn nx)
      · exact r_tabEq dL_law_33 q (by decide) (by decide) rfl (by decide) (law_33 hI hi hl hn nx)
      · exact r_tabEq dL_law_33 q (by decide) (by decide) rfl (by decide) (law_34 hI hi hl hn nx)
      · exact r_tabEq dL_law_33 q (by decide) (by decide) rfl (by decide) (law_35 hI hi hl hn nx)
      · exact r_tabEq dL_law_33 q (by decide) (by decide) rfl (by decide) (law_36 hI hi hl hn nx)
      · exact r_tabEq dL_law_33 q (by decide) (by decide) rfl (by decide) (law_37 hI hi hl hn nx)
      · exact r_tabEq dL_law_33 q (by decide) (by decide) rfl (by decide) (law_38 hI hi hl hn nx)
      · exact r_tabEq dL_law_33 q (by decide) (by decide) rfl (by decide) (law_39 hI hi hl hn nx)
      · exact r_tabEq dL_law_33 q (by decide) (by decide) rfl (by decide) (law_40 hI hi hl hn nx)
      · exact r_tabEq dL_law_33 q (by decide) (by decide) rfl (by decide) (law_41 hI hi hl hn nx)
      · exact r_tabEq dL_law_33 q (by decide) (by decide) rfl (by decide) (law_42 hI hi hl hn nx)
      · exact r_tabEq dL_law_33 q (by decide) (by decide) rfl (by decide) (law_43 hI hi hl hn nx)
      · exact r_tabOut (tgt := 1541) dL_law_33 q (by decide) (nx _ _ _ _ hI)
