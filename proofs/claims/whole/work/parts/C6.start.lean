theorem law_begin {lx : List Int} (hl : lx.length ≤ 3072) : V kLaw 600000 7302250 95 (some lx) QL 0 [(3, 0), (9, 0), (9, 0), (9, 0)] [] [] Mz 0 0 := by
  have z0 : Zm Mz 0 := fun _ _ _ => rfl
  have z1 : Zm (X10M Mz 0) 429 := Zm.sp (Zm.sp (((z0.le (m := 429) (by decide)).up (by decide)).up (by decide)) (by decide)) (by decide)
  have l1 : (([] ++ X10S 0 : Sh).length : Int) = 429 := by
    rw [List.nil_append, X10S_l]; rfl
  refine r_new (ci := 10) dL_law_0 rfl (by decide) klL_7 inX10 iiX10 (by decide) rfl (show ((([] : Sh).length : Nat) : Int) = 0 from rfl) (Zm.zr z0 rfl) ?_
  refine r_dup dL_law_3 (Nat.ne_of_beq_eq_false rfl) ?_
  refine r_ci0 (e1 := 428) (e2 := 6908) dL_law_4 (Or.inl clL_9) (by decide) (by decide) (Nat.le_of_ble_eq_true rfl) (by decide) (i_X10 (S0 := []) (b := 0) rfl z0 rfl) ?_
  refine r_astore_n dL_law_7 (by decide) rfl (by decide) st1 ?_
  refine r_new (ci := 11) dL_law_8 rfl (by decide) klL_10 inX11 iiX11 (by decide) rfl l1 (Zm.zr z1 l1) ?_
  refine r_dup dL_law_11 (Nat.ne_of_beq_eq_false rfl) ?_
  refine r_ci0 (e1 := 13) (e2 := 8269) dL_law_12 (Or.inl clL_12) (by decide) (by decide) (Nat.le_of_ble_eq_true rfl) (by decide) (i_X11 l1 z1 shape0) ?_
  refine r_astore_n dL_law_15 (by decide) rfl (by decide) st2 ?_
  refine r_iconst dL_law_16 (by decide) ?_
  refine r_istore_n dL_law_17 rfl (by decide) st3 ?_
  exact law_head hl (by decide) 512 0 (-1) (-1) (-1) M1 inv_1 (by decide) (by decide) (by omega)
