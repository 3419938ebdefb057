/-- the left and the with of the search -/
def fdM (M : Me) (L W : Int → Int) : Me := row1 (row1 M 11 8 L) 10 12 W
theorem fdM_o {M : Me} {L W : Int → Int} {a j : Int} (h : ¬ (a = 11 ∧ 0 ≤ j ∧ j < 8) ∧ ¬ (a = 10 ∧ 0 ≤ j ∧ j < 12)) : fdM M L W a j = M a j := (row1_o h.2).trans (row1_o h.1)
theorem fdM_L {M : Me} {L W : Int → Int} {j : Int} (h : 0 ≤ j ∧ j < 8) : fdM M L W 11 j = L j := rd_r0 (by omega) (rd_rX ⟨rfl, h⟩ rfl)
theorem fdM_W {M : Me} {L W : Int → Int} {j : Int} (h : 0 ≤ j ∧ j < 12) : fdM M L W 10 j = W j := rd_rX ⟨rfl, h⟩ rfl
theorem fdM_c {M : Me} {L L' W W' : Int → Int} (h : ∀ c, 0 ≤ c → c < 8 → L c = L' c) (h' : ∀ c, 0 ≤ c → c < 12 → W c = W' c) : fdM M L W = fdM M L' W' := by
  unfold fdM
  rw [row1_c h, row1_c h']
theorem fdM_uL {M : Me} {y v : Int} {L L' W : Int → Int} (hy : 0 ≤ y ∧ y < 8) (h : ∀ c, 0 ≤ c → c < 8 → L' c = if c = y then v else L c) : up (fdM M L W) 11 y v = fdM M L' W := by
  funext a j
  by_cases h1 : a = 11 ∧ j = y
  · rw [up_eq h1]; obtain ⟨rfl, rfl⟩ := h1
    rw [fdM_L hy, h j hy.1 hy.2, if_pos rfl]
  · rw [up_ne h1]
    by_cases h2 : a = 11 ∧ 0 ≤ j ∧ j < 8
    · obtain ⟨rfl, h2⟩ := h2
      rw [fdM_L h2, fdM_L h2, h j h2.1 h2.2, if_neg (fun q => h1 ⟨rfl, q⟩)]
    · by_cases h3 : a = 10 ∧ 0 ≤ j ∧ j < 12
      · obtain ⟨rfl, h3⟩ := h3
        rw [fdM_W h3, fdM_W h3]
      · rw [fdM_o ⟨h2, h3⟩, fdM_o ⟨h2, h3⟩]
theorem fdM_uW {M : Me} {y v : Int} {L W W' : Int → Int} (hy : 0 ≤ y ∧ y < 12) (h : ∀ c, 0 ≤ c → c < 12 → W' c = if c = y then v else W c) : up (fdM M L W) 10 y v = fdM M L W' := row1_up hy h
theorem fdM_id {M : Me} : M = fdM M (fun c => M 11 c) (fun c => M 10 c) := by
  unfold fdM
  rw [← row1_id, ← row1_id]
/-- whether the crease c lies in the seam j -/
abbrev inS (M : Me) (c j : Int) : Prop := M 224 j ≤ M 210 c ∧ M 210 c ≤ M 225 j
/-- the left once the crease c is taken t times, in the first i seams -/
def sbL (M : Me) (c t : Int) (L : Int → Int) (i : Int) : Int → Int := fun j => if (0 ≤ j ∧ j < i) ∧ inS M c j then L j - t * M 211 c else L j
def fiL (M : Me) (c t : Int) (L : Int → Int) : Nat → Int
  | 0 => 1
  | j + 1 => if inS M c (j : Int) ∧ L (j : Int) - t * M 211 c < 0 then 0 else fiL M c t L j
theorem fiL_01 {M : Me} {c t : Int} {L : Int → Int} : ∀ j : Nat, fiL M c t L j = 0 ∨ fiL M c t L j = 1 := by
  intro j
  induction j with
  | zero => exact Or.inr rfl
  | succ j ih => unfold fiL; split <;> omega
theorem fiL_n {M : Me} {c t : Int} {L : Int → Int} {j : Nat} (h : ¬ (inS M c (j : Int) ∧ L (j : Int) - t * M 211 c < 0)) : fiL M c t L (j + 1) = fiL M c t L j := if_neg h
theorem fiL_z {M : Me} {c t : Int} {L : Int → Int} {j : Nat} (h : inS M c (j : Int) ∧ L (j : Int) - t * M 211 c < 0) : fiL M c t L (j + 1) = 0 := if_pos h
theorem an01 {a : Int} (h : a = 0 ∨ a = 1) : and32 a 1 = a ∧ and32 a 0 = 0 := by rcases h with h | h <;> subst h <;> decide
theorem sbL_n {M : Me} {c t : Int} {L : Int → Int} {i : Nat} (h : ¬ inS M c (i : Int)) : sbL M c t L (i : Int) = sbL M c t L ((i + 1 : Nat) : Int) := by
  funext j
  unfold sbL
  by_cases e : j = (i : Int)
  · subst e; rw [if_neg (by omega), if_neg (fun q => h q.2)]
  · exact ite_c9 ⟨fun q => ⟨by omega, q.2⟩, fun q => ⟨by omega, q.2⟩⟩ rfl rfl
theorem sbL_s {M : Me} {c t : Int} {L : Int → Int} {i : Nat} (h : inS M c (i : Int)) (j : Int) : sbL M c t L ((i + 1 : Nat) : Int) j = if j = (i : Int) then L (i : Int) - t * M 211 c else sbL M c t L (i : Int) j := by
  unfold sbL
  by_cases e : j = (i : Int)
  · subst e; rw [if_pos rfl, if_pos ⟨by omega, h⟩]
  · rw [if_neg e]
    exact ite_c9 ⟨fun q => ⟨by omega, q.2⟩, fun q => ⟨by omega, q.2⟩⟩ rfl rfl
theorem sbL_i {M : Me} {c t : Int} {L : Int → Int} {i : Int} : sbL M c t L i i = L i := if_neg (by omega)
theorem sbL_0 {M : Me} {c t : Int} {L : Int → Int} : sbL M c t L 0 = L := by funext j; exact if_neg (by omega)
theorem l_take {x z : Int} {M : Me} {c t : Int} {L W : Int → Int} {ns : Nat} (h6 : M 223 0 = (ns : Int)) (h68 : ns ≤ 8) (hL : ∀ j : Int, 0 ≤ j → j < 8 → -1000 ≤ L j ∧ L j ≤ 1000) (hc : 0 ≤ c ∧ c < 12) (hd : 0 ≤ M 211 c ∧ M 211 c ≤ 9) (ht : t = 1 ∨ t = -1) : ∀ (m i : Nat), m + i = ns → V kX1_take 0 0 0 none (Ex (some (0, fiL M c t L ns)) (Sf x 49 z) (fdM M (sbL M c t L (ns : Int)) W)) 5 [(1, 8), (0, c), (0, t), (0, fiL M c t L i), (0, (i : Int))] [] (Sf x 49 z) (fdM M (sbL M c t L (i : Int)) W) 0 0 := by
  intro m
  induction m with
  | zero =>
    intro i hi
    obtain rfl : i = ns := by omega
    have h01 := fiL_01 (M := M) (c := c) (t := t) (L := L) i
    refine r_iload dX1_take_5 rfl ?_
    refine r_aload_n dX1_take_7 rfl (by decide) ?_
    refine r_getr (x := 49) dX1_take_8 flX1_21 sf8 (by decide) (by decide) rfl rfl ?_
    refine r_getr (x := 223) dX1_take_11 flX1_41 sf49 (by decide) (by decide) rfl rfl ?_
    refine r_gi 0 dX1_take_14 flX1_71 sf223 (by decide) (by decide) rfl rfl ((fdM_o (by omega)).trans h6) ?_
    refine r_icmp_ge (tgt := 115) dX1_take_17 (by decide) (fun h17 => ?_) (fun h17 => by exfalso; omega)
    refine r_iload_n dX1_take_115 rfl ?_
    refine r_zret dX1_take_116 rfl (by omega) ?_
    exact ⟨rfl, rfl, rfl⟩
  | succ m ih =>
    intro i hi
    have h01 := fiL_01 (M := M) (c := c) (t := t) (L := L) i
    have hl := hL (i : Int) (by omega) (by omega)
    have htd : t * M 211 c = M 211 c ∨ t * M 211 c = -(M 211 c) := by rcases ht with q | q <;> subst q <;> omega
    have ih9 := ih (i + 1) (by omega)
    refine r_iload dX1_take_5 rfl ?_
    refine r_aload_n dX1_take_7 rfl (by decide) ?_
    refine r_getr (x := 49) dX1_take_8 flX1_21 sf8 (by decide) (by decide) rfl rfl ?_
    refine r_getr (x := 223) dX1_take_11 flX1_41 sf49 (by decide) (by decide) rfl rfl ?_
    refine r_gi 0 dX1_take_14 flX1_71 sf223 (by decide) (by decide) rfl rfl ((fdM_o (by omega)).trans h6) ?_
    refine r_icmp_ge (tgt := 115) dX1_take_17 (by decide) (fun h17 => by exfalso; omega) (fun h17 => ?_)
    refine r_aload_n dX1_take_20 rfl (by decide) ?_
    refine r_getr (x := 49) dX1_take_21 flX1_21 sf8 (by decide) (by decide) rfl rfl ?_
    refine r_getr (x := 210) dX1_take_24 flX1_74 sf49 (by decide) (by decide) rfl rfl ?_
    refine r_iload_n dX1_take_27 rfl ?_
    refine r_iald dX1_take_28 sf210 (by decide) (by omega) (by omega) (by decide) (fdM_o (by omega)) ?_
    refine r_aload_n dX1_take_29 rfl (by decide) ?_
    refine r_getr (x := 49) dX1_take_30 flX1_21 sf8 (by decide) (by decide) rfl rfl ?_
    refine r_getr (x := 223) dX1_take_33 flX1_41 sf49 (by decide) (by decide) rfl rfl ?_
    refine r_getr (x := 224) dX1_take_36 flX1_77 sf223 (by decide) (by decide) rfl rfl ?_
    refine r_iload dX1_take_39 rfl ?_
    refine r_iald dX1_take_41 sf224 (by decide) (by omega) (by omega) (by decide) (fdM_o (by omega)) ?_
    refine r_icmp_lt (tgt := 109) dX1_take_42 (by decide) (fun h42 => ?_) (fun h42 => ?_)
    · refine r_iinc dX1_take_109 rfl rfl (by decide) (w32_id (by omega)) st4 ?_
      refine r_goto (tgt := 5) dX1_take_112 (by decide) ?_
      first | (rw [fiL_n (fun q => by omega), ← sbL_n (fun q => by omega)] at ih9; exact ih9) | (rw [fiL_n (fun q => by omega)] at ih9; exact ih9) | (rw [fiL_z ⟨⟨by omega, by omega⟩, by omega⟩] at ih9; exact ih9)
    · refine r_aload_n dX1_take_45 rfl (by decide) ?_
      refine r_getr (x := 49) dX1_take_46 flX1_21 sf8 (by decide) (by decide) rfl rfl ?_
      refine r_getr (x := 210) dX1_take_49 flX1_74 sf49 (by decide) (by decide) rfl rfl ?_
      refine r_iload_n dX1_take_52 rfl ?_
      refine r_iald dX1_take_53 sf210 (by decide) (by omega) (by omega) (by decide) (fdM_o (by omega)) ?_
      refine r_aload_n dX1_take_54 rfl (by decide) ?_
      refine r_getr (x := 49) dX1_take_55 flX1_21 sf8 (by decide) (by decide) rfl rfl ?_
      refine r_getr (x := 223) dX1_take_58 flX1_41 sf49 (by decide) (by decide) rfl rfl ?_
      refine r_getr (x := 225) dX1_take_61 flX1_80 sf223 (by decide) (by decide) rfl rfl ?_
      refine r_iload dX1_take_64 rfl ?_
      refine r_iald dX1_take_66 sf225 (by decide) (by omega) (by omega) (by decide) (fdM_o (by omega)) ?_
      refine r_icmp_gt (tgt := 109) dX1_take_67 (by decide) (fun h67 => ?_) (fun h67 => ?_)
      · refine r_iinc dX1_take_109 rfl rfl (by decide) (w32_id (by omega)) st4 ?_
        refine r_goto (tgt := 5) dX1_take_112 (by decide) ?_
        first | (rw [fiL_n (fun q => by omega), ← sbL_n (fun q => by omega)] at ih9; exact ih9) | (rw [fiL_n (fun q => by omega)] at ih9; exact ih9) | (rw [fiL_z ⟨⟨by omega, by omega⟩, by omega⟩] at ih9; exact ih9)
      · refine r_aload_n dX1_take_70 rfl (by decide) ?_
        refine r_getr (x := 11) dX1_take_71 flX1_18 sf8 (by decide) (by decide) rfl rfl ?_
        refine r_iload dX1_take_74 rfl ?_
        refine r_dup2 dX1_take_76 (Nat.ne_of_beq_eq_false rfl) (Nat.ne_of_beq_eq_false rfl) ?_
        refine r_iald dX1_take_77 sf11 (by decide) (by omega) (by omega) (by decide) ((fdM_L (by omega)).trans sbL_i) ?_
        refine r_iload_n dX1_take_78 rfl ?_
        refine r_aload_n dX1_take_79 rfl (by decide) ?_
        refine r_getr (x := 49) dX1_take_80 flX1_21 sf8 (by decide) (by decide) rfl rfl ?_
        refine r_getr (x := 211) dX1_take_83 flX1_83 sf49 (by decide) (by decide) rfl rfl ?_
        refine r_iload_n dX1_take_86 rfl ?_
        refine r_iald dX1_take_87 sf211 (by decide) (by omega) (by omega) (by decide) (fdM_o (by omega)) ?_
        refine r_imul dX1_take_88 (w32_id (by omega)) ?_
        refine r_isub dX1_take_89 (w32_id (by omega)) ?_
        refine r_iast dX1_take_90 sf11 (by decide) (by omega) (by omega) (by decide) rfl ?_
        refine V.cm rfl (fdM_uL (by omega) (fun j _ _ => sbL_s ⟨by omega, by omega⟩ j)) ?_
        refine r_iload_n dX1_take_91 rfl ?_
        refine r_aload_n dX1_take_92 rfl (by decide) ?_
        refine r_getr (x := 11) dX1_take_93 flX1_18 sf8 (by decide) (by decide) rfl rfl ?_
        refine r_iload dX1_take_96 rfl ?_
        refine r_iald dX1_take_98 sf11 (by decide) (by omega) (by omega) (by decide) ((fdM_L (by omega)).trans ((sbL_s ⟨by omega, by omega⟩ _).trans (if_pos rfl))) ?_
        refine r_if_lt (tgt := 106) dX1_take_99 (by decide) (fun h99 => ?_) (fun h99 => ?_)
        · refine r_iconst dX1_take_106 (by decide) ?_
          refine r_iand dX1_take_107 (by first | exact (an01 h01).1 | exact (an01 h01).2) ?_
          refine r_istore_n dX1_take_108 rfl (by decide) st3 ?_
          refine r_iinc dX1_take_109 rfl rfl (by decide) (w32_id (by omega)) st4 ?_
          refine r_goto (tgt := 5) dX1_take_112 (by decide) ?_
          first | (rw [fiL_n (fun q => by omega), ← sbL_n (fun q => by omega)] at ih9; exact ih9) | (rw [fiL_n (fun q => by omega)] at ih9; exact ih9) | (rw [fiL_z ⟨⟨by omega, by omega⟩, by omega⟩] at ih9; exact ih9)
        · refine r_iconst dX1_take_102 (by decide) ?_
          refine r_goto (tgt := 107) dX1_take_103 (by decide) ?_
          refine r_iand dX1_take_107 (by first | exact (an01 h01).1 | exact (an01 h01).2) ?_
          refine r_istore_n dX1_take_108 rfl (by decide) st3 ?_
          refine r_iinc dX1_take_109 rfl rfl (by decide) (w32_id (by omega)) st4 ?_
          refine r_goto (tgt := 5) dX1_take_112 (by decide) ?_
          first | (rw [fiL_n (fun q => by omega), ← sbL_n (fun q => by omega)] at ih9; exact ih9) | (rw [fiL_n (fun q => by omega)] at ih9; exact ih9) | (rw [fiL_z ⟨⟨by omega, by omega⟩, by omega⟩] at ih9; exact ih9)
theorem c_take {x z : Int} {M : Me} {c t : Int} {L W : Int → Int} {ns : Nat} (h6 : M 223 0 = (ns : Int)) (h68 : ns ≤ 8) (hL : ∀ j : Int, 0 ≤ j → j < 8 → -1000 ≤ L j ∧ L j ≤ 1000) (hc : 0 ≤ c ∧ c < 12) (hd : 0 ≤ M 211 c ∧ M 211 c ≤ 9) (ht : t = 1 ∨ t = -1) : Con kX1_take 0 0 0 [(1, 8), (0, c), (0, t)] (Sf x 49 z) (fdM M L W) (Ex (some (0, fiL M c t L ns)) (Sf x 49 z) (fdM M (sbL M c t L (ns : Int)) W)) := by
  refine Con.ofV (al := [(1, 8), (0, c), (0, t), (9, 0), (9, 0)]) 2 (by decide) (Nat.le_of_ble_eq_true rfl) rfl ?_
  refine r_iconst dX1_take_0 (by decide) ?_
  refine r_istore_n dX1_take_1 rfl (by decide) st3 ?_
  refine r_iconst dX1_take_2 (by decide) ?_
  refine r_istore dX1_take_3 rfl (by decide) st4 ?_
  exact V.cm rfl (show _ = fdM M (sbL M c t L ((0 : Nat) : Int)) W from by rw [show ((0 : Nat) : Int) = 0 from rfl, sbL_0]) (l_take h6 h68 hL hc hd ht ns 0 (by omega))
/-- no seam has anything left -/
def nlP (L : Int → Int) (n : Nat) : Prop := ∀ j : Nat, j < n → L (j : Int) = 0
theorem l_nothing {x z : Int} {M : Me} {L W : Int → Int} {ns : Nat} (h6 : M 223 0 = (ns : Int)) (h68 : ns ≤ 8) : ∀ (m i : Nat), m + i = ns → nlP L i → V kX1_nothingLeft 0 0 0 none (Ex (some (0, bic (nlP L ns))) (Sf x 49 z) (fdM M L W)) 2 [(1, 8), (0, (i : Int))] [] (Sf x 49 z) (fdM M L W) 0 0 := by
  intro m
  induction m with
  | zero =>
    intro i hi h
    obtain rfl : i = ns := by omega
    refine r_iload_n dX1_nothingLeft_2 rfl ?_
    refine r_aload_n dX1_nothingLeft_3 rfl (by decide) ?_
    refine r_getr (x := 49) dX1_nothingLeft_4 flX1_21 sf8 (by decide) (by decide) rfl rfl ?_
    refine r_getr (x := 223) dX1_nothingLeft_7 flX1_41 sf49 (by decide) (by decide) rfl rfl ?_
    refine r_gi 0 dX1_nothingLeft_10 flX1_71 sf223 (by decide) (by decide) rfl rfl ((fdM_o (by omega)).trans h6) ?_
    refine r_icmp_ge (tgt := 33) dX1_nothingLeft_13 (by decide) (fun h13 => ?_) (fun h13 => by exfalso; omega)
    refine r_iconst dX1_nothingLeft_33 (by decide) ?_
    refine r_zret dX1_nothingLeft_34 rfl (by omega) ?_
    exact ⟨by rw [bic_t h], rfl, rfl⟩
  | succ m ih =>
    intro i hi h
    refine r_iload_n dX1_nothingLeft_2 rfl ?_
    refine r_aload_n dX1_nothingLeft_3 rfl (by decide) ?_
    refine r_getr (x := 49) dX1_nothingLeft_4 flX1_21 sf8 (by decide) (by decide) rfl rfl ?_
    refine r_getr (x := 223) dX1_nothingLeft_7 flX1_41 sf49 (by decide) (by decide) rfl rfl ?_
    refine r_gi 0 dX1_nothingLeft_10 flX1_71 sf223 (by decide) (by decide) rfl rfl ((fdM_o (by omega)).trans h6) ?_
    refine r_icmp_ge (tgt := 33) dX1_nothingLeft_13 (by decide) (fun h13 => by exfalso; omega) (fun h13 => ?_)
    refine r_aload_n dX1_nothingLeft_16 rfl (by decide) ?_
    refine r_getr (x := 11) dX1_nothingLeft_17 flX1_18 sf8 (by decide) (by decide) rfl rfl ?_
    refine r_iload_n dX1_nothingLeft_20 rfl ?_
    refine r_iald dX1_nothingLeft_21 sf11 (by decide) (by omega) (by omega) (by decide) (fdM_L (by omega)) ?_
    refine r_if_eq (tgt := 27) dX1_nothingLeft_22 (by decide) (fun h22 => ?_) (fun h22 => ?_)
    · refine r_iinc dX1_nothingLeft_27 rfl rfl (by decide) (w32_id (by omega)) st1 ?_
      refine r_goto (tgt := 2) dX1_nothingLeft_30 (by decide) ?_
      exact ih (i + 1) (by omega) (fun j hj => by by_cases e : j = i; (subst e; assumption); exact h j (by omega))
    · refine r_iconst dX1_nothingLeft_25 (by decide) ?_
      refine r_zret dX1_nothingLeft_26 rfl (by omega) ?_
      exact ⟨by rw [bic_f (fun q => absurd (q i (by omega)) (by assumption))], rfl, rfl⟩
theorem c_nothing {x z : Int} {M : Me} {L W : Int → Int} {ns : Nat} (h6 : M 223 0 = (ns : Int)) (h68 : ns ≤ 8) : Con kX1_nothingLeft 0 0 0 [(1, 8)] (Sf x 49 z) (fdM M L W) (Ex (some (0, bic (nlP L ns))) (Sf x 49 z) (fdM M L W)) := by
  refine Con.ofV (al := [(1, 8), (9, 0)]) 1 (by decide) (Nat.le_of_ble_eq_true rfl) rfl ?_
  refine r_iconst dX1_nothingLeft_0 (by decide) ?_
  refine r_istore_n dX1_nothingLeft_1 rfl (by decide) st1 ?_
  exact l_nothing h6 h68 ns 0 (by omega) (fun j hj => absurd hj (by omega))
theorem bic_01 {p : Prop} : 0 ≤ bic p ∧ bic p ≤ 1 := by
  by_cases h : p
  · rw [bic_t h]; decide
  · rw [bic_f h]; decide
/-- the left with the crease c taken -/
abbrev sb1 (M : Me) (ns : Nat) (c : Int) (L : Int → Int) : Int → Int := sbL M c 1 L (ns : Int)
/-- how many sets of the last k of m creases leave nothing -/
noncomputable def cnF (M : Me) (ns m : Nat) (X : Int → Int) : Nat → (Int → Int) → Int
  | 0, L => bic (nlP L ns)
  | k + 1, L => cnF M ns m X k L + (if fiL M (X ((m : Int) - k - 1)) 1 L ns = 0 then 0 else cnF M ns m X k (sb1 M ns (X ((m : Int) - k - 1)) L))
noncomputable def wnF (M : Me) (ns m : Nat) (X : Int → Int) : Nat → (Int → Int) → Int → Int
  | 0, _, _ => 0
  | k + 1, L, j => wnF M ns m X k L j + (if fiL M (X ((m : Int) - k - 1)) 1 L ns = 0 then 0 else wnF M ns m X k (sb1 M ns (X ((m : Int) - k - 1)) L) j) + (if j = (m : Int) - k - 1 then (if fiL M (X ((m : Int) - k - 1)) 1 L ns = 0 then 0 else cnF M ns m X k (sb1 M ns (X ((m : Int) - k - 1)) L)) else 0)
def p2 : Nat → Int
  | 0 => 1
  | k + 1 => p2 k + p2 k
theorem cnF_b {M : Me} {ns m : Nat} {X : Int → Int} : ∀ (k : Nat) (L : Int → Int), 0 ≤ cnF M ns m X k L ∧ cnF M ns m X k L ≤ p2 k := by
  intro k
  induction k with
  | zero => intro L; exact bic_01
  | succ k ih =>
    intro L
    have h1 := ih L
    have h2 := ih (sb1 M ns (X ((m : Int) - k - 1)) L)
    have e : p2 (k + 1) = p2 k + p2 k := rfl
    unfold cnF
    split <;> omega
theorem wnF_b {M : Me} {ns m : Nat} {X : Int → Int} (j : Int) : ∀ (k : Nat) (L : Int → Int), 0 ≤ wnF M ns m X k L j ∧ wnF M ns m X k L j ≤ p2 k ∧ (j < (m : Int) - k → wnF M ns m X k L j = 0) := by
  intro k
  induction k with
  | zero => intro L; exact ⟨Int.le_refl _, (show (0 : Int) ≤ 1 by decide), fun _ => rfl⟩
  | succ k ih =>
    intro L
    have h1 := ih L
    have h2 := ih (sb1 M ns (X ((m : Int) - k - 1)) L)
    have h3 := cnF_b (M := M) (ns := ns) (m := m) (X := X) k (sb1 M ns (X ((m : Int) - k - 1)) L)
    have e : p2 (k + 1) = p2 k + p2 k := rfl
    unfold wnF
    by_cases q : j = (m : Int) - k - 1
    · have z1 := h1.2.2 (by omega)
      have z2 := h2.2.2 (by omega)
      rw [if_pos q]
      split <;> refine ⟨by omega, by omega, fun _ => by omega⟩
    · rw [if_neg q]
      split <;> refine ⟨by omega, by omega, fun _ => by omega⟩
theorem p2_12 : ∀ k : Nat, k ≤ 12 → 1 ≤ p2 k ∧ p2 k ≤ 4096 := by decide +kernel
theorem sb_back {M : Me} {ns : Nat} {c : Int} {L : Int → Int} : sbL M c (-1) (sb1 M ns c L) (ns : Int) = L := by
  funext j
  have e : sb1 M ns c L j = if (0 ≤ j ∧ j < (ns : Int)) ∧ inS M c j then L j - 1 * M 211 c else L j := rfl
  show (if (0 ≤ j ∧ j < (ns : Int)) ∧ inS M c j then sb1 M ns c L j - -1 * M 211 c else sb1 M ns c L j) = L j
  rw [e]
  by_cases q : (0 ≤ j ∧ j < (ns : Int)) ∧ inS M c j
  · rw [if_pos q, if_pos q]; omega
  · rw [if_neg q, if_neg q]
theorem cnF_z {M : Me} {ns m : Nat} {X : Int → Int} {k : Nat} {L : Int → Int} (h : fiL M (X ((m : Int) - k - 1)) 1 L ns = 0) : cnF M ns m X (k + 1) L = cnF M ns m X k L + 0 := congrArg (fun q => cnF M ns m X k L + q) (if_pos h)
theorem cnF_n {M : Me} {ns m : Nat} {X : Int → Int} {k : Nat} {L : Int → Int} (h : fiL M (X ((m : Int) - k - 1)) 1 L ns ≠ 0) : cnF M ns m X (k + 1) L = cnF M ns m X k L + cnF M ns m X k (sb1 M ns (X ((m : Int) - k - 1)) L) := congrArg (fun q => cnF M ns m X k L + q) (if_neg h)
theorem wnF_z {M : Me} {ns m : Nat} {X : Int → Int} {k : Nat} {L : Int → Int} {j : Int} (h : fiL M (X ((m : Int) - k - 1)) 1 L ns = 0) : wnF M ns m X (k + 1) L j = wnF M ns m X k L j + 0 + (if j = (m : Int) - k - 1 then 0 else 0) := by
  conv => lhs; unfold wnF
  rw [if_pos h, if_pos h]
theorem wnF_n {M : Me} {ns m : Nat} {X : Int → Int} {k : Nat} {L : Int → Int} {j : Int} (h : fiL M (X ((m : Int) - k - 1)) 1 L ns ≠ 0) : wnF M ns m X (k + 1) L j = wnF M ns m X k L j + wnF M ns m X k (sb1 M ns (X ((m : Int) - k - 1)) L) j + (if j = (m : Int) - k - 1 then cnF M ns m X k (sb1 M ns (X ((m : Int) - k - 1)) L) else 0) := by
  conv => lhs; unfold wnF
  rw [if_neg h, if_neg h]
set_option maxHeartbeats 2000000 in
theorem c_findFrom {x z : Int} {M : Me} {m : Nat} {X : Int → Int} {ns : Nat} (h6 : M 223 0 = (ns : Int)) (h68 : ns ≤ 8) (hm : M 8 2 = (m : Int)) (hm12 : m ≤ 12) (hX : ∀ i : Int, 0 ≤ i → i < m → M 9 i = X i ∧ (0 ≤ X i ∧ X i < 12) ∧ 0 ≤ M 211 (X i) ∧ M 211 (X i) ≤ 9) : ∀ (k : Nat) (i : Int) (L W : Int → Int), i + k = m → 0 ≤ i → (∀ j : Int, 0 ≤ j → j < 8 → -(12 * 9) + 9 * k ≤ L j ∧ L j ≤ 1000) → (∀ j : Int, 0 ≤ j → j < 12 → 0 ≤ W j ∧ W j ≤ 1000000 - p2 k) → Con kX1_findFrom (k + 1) 0 0 [(1, 8), (0, i)] (Sf x 49 z) (fdM M L W) (Ex (some (0, cnF M ns m X k L)) (Sf x 49 z) (fdM M L (fun j => W j + wnF M ns m X k L j))) := by
  intro k
  induction k with
  | zero =>
    intro i L W hi h0 hL hW
    refine Con.ofV (al := [(1, 8), (0, i), (9, 0), (9, 0)]) 2 (by decide) (Nat.le_of_ble_eq_true rfl) rfl ?_
    refine r_iload_n dX1_findFrom_0 rfl ?_
    refine r_aload_n dX1_findFrom_1 rfl (by decide) ?_
    refine r_gi 2 dX1_findFrom_2 flX1_25 sf8 (by decide) (by decide) rfl rfl ((fdM_o (by omega)).trans hm) ?_
    refine r_icmp_ge (tgt := 14) dX1_findFrom_5 (by decide) (fun h5 => ?_) (fun h5 => by exfalso; omega)
    refine r_aload_n dX1_findFrom_14 rfl (by decide) ?_
    refine r_cv0 dX1_findFrom_15 clX1_63 sf8 (by decide) (by decide) rfl (by first | decide | omega) (Nat.le_of_ble_eq_true rfl) ((c_nothing h6 h68)) ⟨Nat.zero_le _, Nat.zero_le _⟩ (fun _ => ?_)
    refine r_if_eq (tgt := 25) dX1_findFrom_18 (by decide) (fun h18 => ?_) (fun h18 => ?_)
    · refine r_iconst dX1_findFrom_25 (by decide) ?_
      refine r_iret dX1_findFrom_26 rfl ?_
      first | exact ⟨by rw [show cnF M ns m X 0 L = 1 from bic_t (bic_1 (by assumption))], rfl, fdM_c (fun c _ _ => rfl) (fun c _ _ => (Int.add_zero _).symm)⟩ | exact ⟨by rw [show cnF M ns m X 0 L = 0 from by assumption], rfl, fdM_c (fun c _ _ => rfl) (fun c _ _ => (Int.add_zero _).symm)⟩
    · refine r_iconst dX1_findFrom_21 (by decide) ?_
      refine r_goto (tgt := 26) dX1_findFrom_22 (by decide) ?_
      refine r_iret dX1_findFrom_26 rfl ?_
      first | exact ⟨by rw [show cnF M ns m X 0 L = 1 from bic_t (bic_1 (by assumption))], rfl, fdM_c (fun c _ _ => rfl) (fun c _ _ => (Int.add_zero _).symm)⟩ | exact ⟨by rw [show cnF M ns m X 0 L = 0 from by assumption], rfl, fdM_c (fun c _ _ => rfl) (fun c _ _ => (Int.add_zero _).symm)⟩
  | succ k ih =>
    intro i L W hi h0 hL hW
    obtain rfl : i = (m : Int) - k - 1 := by omega
    have hx := hX ((m : Int) - k - 1) (by omega) (by omega)
    have hp := p2_12 k (by omega)
    have hp2 := p2_12 (k + 1) (by omega)
    have ep : p2 (k + 1) = p2 k + p2 k := rfl
    have hb1 := cnF_b (M := M) (ns := ns) (m := m) (X := X) k L
    have hb2 := cnF_b (M := M) (ns := ns) (m := m) (X := X) k (sb1 M ns (X ((m : Int) - k - 1)) L)
    have hL1 : ∀ j : Int, 0 ≤ j → j < 8 → -1000 ≤ L j ∧ L j ≤ 1000 := fun j g0 g1 => by have := hL j g0 g1; omega
    have hL2 : ∀ j : Int, 0 ≤ j → j < 8 → -(12 * 9) + 9 * (k : Int) ≤ sb1 M ns (X ((m : Int) - k - 1)) L j ∧ sb1 M ns (X ((m : Int) - k - 1)) L j ≤ 1000 := fun j g0 g1 => by
      have := hL j g0 g1
      show _ ≤ sbL M (X ((m : Int) - k - 1)) 1 L ns j ∧ sbL M (X ((m : Int) - k - 1)) 1 L ns j ≤ _
      unfold sbL
      split <;> omega
    have hL3 : ∀ j : Int, 0 ≤ j → j < 8 → -1000 ≤ sb1 M ns (X ((m : Int) - k - 1)) L j ∧ sb1 M ns (X ((m : Int) - k - 1)) L j ≤ 1000 := fun j g0 g1 => by have := hL2 j g0 g1; omega
    have hW1 : ∀ j : Int, 0 ≤ j → j < 12 → 0 ≤ W j ∧ W j ≤ 1000000 - p2 k := fun j g0 g1 => by have := hW j g0 g1; omega
    have hW2 : ∀ j : Int, 0 ≤ j → j < 12 → 0 ≤ W j + wnF M ns m X k L j ∧ W j + wnF M ns m X k L j ≤ 1000000 - p2 k := fun j g0 g1 => by
      have := hW j g0 g1
      have := wnF_b (M := M) (ns := ns) (m := m) (X := X) j k L
      omega
    have hwz := wnF_b (M := M) (ns := ns) (m := m) (X := X) ((m : Int) - k - 1) k L
    have hwz2 := wnF_b (M := M) (ns := ns) (m := m) (X := X) ((m : Int) - k - 1) k (sb1 M ns (X ((m : Int) - k - 1)) L)
    have hwi := hW ((m : Int) - k - 1) (by omega) (by omega)
    have r1 := ih ((m : Int) - k - 1 + 1) L W (by omega) (by omega) (fun j g0 g1 => by have := hL j g0 g1; omega) hW1
    have r2 := ih ((m : Int) - k - 1 + 1) (sb1 M ns (X ((m : Int) - k - 1)) L) (fun j => W j + wnF M ns m X k L j) (by omega) (by omega) hL2 hW2
    refine Con.ofV (al := [(1, 8), (0, (m : Int) - k - 1), (9, 0), (9, 0)]) 2 (by decide) (Nat.le_of_ble_eq_true rfl) rfl ?_
    refine r_iload_n dX1_findFrom_0 rfl ?_
    refine r_aload_n dX1_findFrom_1 rfl (by decide) ?_
    refine r_gi 2 dX1_findFrom_2 flX1_25 sf8 (by decide) (by decide) rfl rfl ((fdM_o (by omega)).trans hm) ?_
    refine r_icmp_ge (tgt := 14) dX1_findFrom_5 (by decide) (fun h5 => by exfalso; omega) (fun h5 => ?_)
    refine r_iload_n dX1_findFrom_8 rfl ?_
    refine r_bipush dX1_findFrom_9 (by decide) (by decide) ?_
    refine r_icmp_lt (tgt := 27) dX1_findFrom_11 (by decide) (fun h11 => ?_) (fun h11 => by exfalso; omega)
    refine r_aload_n dX1_findFrom_27 rfl (by decide) ?_
    refine r_iload_n dX1_findFrom_28 rfl ?_
    refine r_iconst dX1_findFrom_29 (by decide) ?_
    refine r_iadd dX1_findFrom_30 (w32_id (by omega)) ?_
    refine r_cs2 dX1_findFrom_31 clX1_56 (by first | decide | omega) (Nat.le_of_ble_eq_true rfl) (r1) ⟨Nat.zero_le _, Nat.zero_le _⟩ (fun _ => ?_)
    refine r_istore_n dX1_findFrom_34 rfl (by decide) st2 ?_
    refine r_aload_n dX1_findFrom_35 rfl (by decide) ?_
    refine r_aload_n dX1_findFrom_36 rfl (by decide) ?_
    refine r_getr (x := 9) dX1_findFrom_37 flX1_9 sf8 (by decide) (by decide) rfl rfl ?_
    refine r_iload_n dX1_findFrom_40 rfl ?_
    refine r_iald dX1_findFrom_41 sf9 (by decide) (by omega) (by omega) (by decide) ((fdM_o (by omega)).trans hx.1) ?_
    refine r_iconst dX1_findFrom_42 (by decide) ?_
    refine r_cv2 dX1_findFrom_43 clX1_67 sf8 (by decide) (by decide) rfl (by first | decide | omega) (Nat.le_of_ble_eq_true rfl) ((c_take (M := M) h6 h68 hL1 hx.2.1 hx.2.2 (Or.inl rfl))) ⟨Nat.zero_le _, Nat.zero_le _⟩ (fun _ => ?_)
    refine r_if_eq (tgt := 59) dX1_findFrom_46 (by decide) (fun h46 => ?_) (fun h46 => ?_)
    · refine r_iconst dX1_findFrom_59 (by decide) ?_
      refine r_istore_n dX1_findFrom_60 rfl (by decide) st3 ?_
      refine r_aload_n dX1_findFrom_61 rfl (by decide) ?_
      refine r_aload_n dX1_findFrom_62 rfl (by decide) ?_
      refine r_getr (x := 9) dX1_findFrom_63 flX1_9 sf8 (by decide) (by decide) rfl rfl ?_
      refine r_iload_n dX1_findFrom_66 rfl ?_
      refine r_iald dX1_findFrom_67 sf9 (by decide) (by omega) (by omega) (by decide) ((fdM_o (by omega)).trans hx.1) ?_
      refine r_iconst dX1_findFrom_68 (by decide) ?_
      refine r_cv2 dX1_findFrom_69 clX1_67 sf8 (by decide) (by decide) rfl (by first | decide | omega) (Nat.le_of_ble_eq_true rfl) ((c_take (M := M) h6 h68 hL3 hx.2.1 hx.2.2 (Or.inr rfl))) ⟨Nat.zero_le _, Nat.zero_le _⟩ (fun _ => ?_)
      rw [sb_back]
      refine r_pop dX1_findFrom_72 (Nat.ne_of_beq_eq_false rfl) ?_
      refine r_aload_n dX1_findFrom_73 rfl (by decide) ?_
      refine r_getr (x := 10) dX1_findFrom_74 flX1_15 sf8 (by decide) (by decide) rfl rfl ?_
      refine r_iload_n dX1_findFrom_77 rfl ?_
      refine r_dup2 dX1_findFrom_78 (Nat.ne_of_beq_eq_false rfl) (Nat.ne_of_beq_eq_false rfl) ?_
      refine r_iald dX1_findFrom_79 sf10 (by decide) (by omega) (by omega) (by decide) (fdM_W (by omega)) ?_
      refine r_iload_n dX1_findFrom_80 rfl ?_
      refine r_iadd dX1_findFrom_81 (w32_id (by omega)) ?_
      refine r_iast dX1_findFrom_82 sf10 (by decide) (by omega) (by omega) (by decide) rfl ?_
      refine V.cm rfl (fdM_uW (W' := fun j => W j + wnF M ns m X (k + 1) L j) (by omega) (fun j g0 g1 => ?_)) ?_
      · have e9 := wnF_z (M := M) (ns := ns) (m := m) (X := X) (k := k) (L := L) (j := j) (by assumption)
        rw [e9]
        by_cases q : j = (m : Int) - k - 1
        · subst q; rw [if_pos rfl, if_pos rfl]; omega
        · rw [if_neg q, if_neg q]; omega
      refine r_iload_n dX1_findFrom_83 rfl ?_
      refine r_iload_n dX1_findFrom_84 rfl ?_
      refine r_iadd dX1_findFrom_85 (w32_id (by omega)) ?_
      refine r_iret dX1_findFrom_86 rfl ?_
      exact ⟨by rw [cnF_z (by assumption)], rfl, rfl⟩
    · refine r_aload_n dX1_findFrom_49 rfl (by decide) ?_
      refine r_iload_n dX1_findFrom_50 rfl ?_
      refine r_iconst dX1_findFrom_51 (by decide) ?_
      refine r_iadd dX1_findFrom_52 (w32_id (by omega)) ?_
      refine r_cs2 dX1_findFrom_53 clX1_56 (by first | decide | omega) (Nat.le_of_ble_eq_true rfl) (r2) ⟨Nat.zero_le _, Nat.zero_le _⟩ (fun _ => ?_)
      refine r_goto (tgt := 60) dX1_findFrom_56 (by decide) ?_
      refine r_istore_n dX1_findFrom_60 rfl (by decide) st3 ?_
      refine r_aload_n dX1_findFrom_61 rfl (by decide) ?_
      refine r_aload_n dX1_findFrom_62 rfl (by decide) ?_
      refine r_getr (x := 9) dX1_findFrom_63 flX1_9 sf8 (by decide) (by decide) rfl rfl ?_
      refine r_iload_n dX1_findFrom_66 rfl ?_
      refine r_iald dX1_findFrom_67 sf9 (by decide) (by omega) (by omega) (by decide) ((fdM_o (by omega)).trans hx.1) ?_
      refine r_iconst dX1_findFrom_68 (by decide) ?_
      refine r_cv2 dX1_findFrom_69 clX1_67 sf8 (by decide) (by decide) rfl (by first | decide | omega) (Nat.le_of_ble_eq_true rfl) ((c_take (M := M) h6 h68 hL3 hx.2.1 hx.2.2 (Or.inr rfl))) ⟨Nat.zero_le _, Nat.zero_le _⟩ (fun _ => ?_)
      rw [sb_back]
      refine r_pop dX1_findFrom_72 (Nat.ne_of_beq_eq_false rfl) ?_
      refine r_aload_n dX1_findFrom_73 rfl (by decide) ?_
      refine r_getr (x := 10) dX1_findFrom_74 flX1_15 sf8 (by decide) (by decide) rfl rfl ?_
      refine r_iload_n dX1_findFrom_77 rfl ?_
      refine r_dup2 dX1_findFrom_78 (Nat.ne_of_beq_eq_false rfl) (Nat.ne_of_beq_eq_false rfl) ?_
      refine r_iald dX1_findFrom_79 sf10 (by decide) (by omega) (by omega) (by decide) (fdM_W (by omega)) ?_
      refine r_iload_n dX1_findFrom_80 rfl ?_
      refine r_iadd dX1_findFrom_81 (w32_id (by omega)) ?_
      refine r_iast dX1_findFrom_82 sf10 (by decide) (by omega) (by omega) (by decide) rfl ?_
      refine V.cm rfl (fdM_uW (W' := fun j => W j + wnF M ns m X (k + 1) L j) (by omega) (fun j g0 g1 => ?_)) ?_
      · have e9 := wnF_n (M := M) (ns := ns) (m := m) (X := X) (k := k) (L := L) (j := j) (by assumption)
        rw [e9]
        by_cases q : j = (m : Int) - k - 1
        · subst q; rw [if_pos rfl, if_pos rfl]; omega
        · rw [if_neg q, if_neg q]; omega
      refine r_iload_n dX1_findFrom_83 rfl ?_
      refine r_iload_n dX1_findFrom_84 rfl ?_
      refine r_iadd dX1_findFrom_85 (w32_id (by omega)) ?_
      refine r_iret dX1_findFrom_86 rfl ?_
      exact ⟨by rw [cnF_n (by assumption)], rfl, rfl⟩
