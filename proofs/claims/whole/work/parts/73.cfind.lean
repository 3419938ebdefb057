/-- the creases of the person p among the first so many: how many, which -/
def fcS (M : Me) (p : Int) : Nat → Nat × (Int → Int)
  | 0 => (0, fun j => M 9 j)
  | i + 1 => if M 209 (i : Int) = p then ((fcS M p i).1 + 1, upf (fcS M p i).2 (fcS M p i).1 i) else fcS M p i
theorem fcS_t {M : Me} {p : Int} {i : Nat} (h : M 209 (i : Int) = p) : fcS M p (i + 1) = ((fcS M p i).1 + 1, upf (fcS M p i).2 (fcS M p i).1 i) := if_pos h
theorem fcS_f {M : Me} {p : Int} {i : Nat} (h : ¬ M 209 (i : Int) = p) : fcS M p (i + 1) = fcS M p i := if_neg h
theorem fcS_b {M : Me} {p : Int} : ∀ i : Nat, (fcS M p i).1 ≤ i ∧ ∀ j : Int, 0 ≤ j → j < (fcS M p i).1 → 0 ≤ (fcS M p i).2 j ∧ (fcS M p i).2 j < i := by
  intro i
  induction i with
  | zero => exact ⟨Nat.le_refl 0, fun j h0 h1 => absurd h1 (by show ¬ j < ((0 : Nat) : Int); omega)⟩
  | succ i ih =>
    by_cases h : M 209 (i : Int) = p
    · rw [fcS_t h]
      refine ⟨by show _ + 1 ≤ _; omega, fun j h0 h1 => ?_⟩
      have h1 : j < (((fcS M p i).1 + 1 : Nat) : Int) := h1
      show 0 ≤ upf _ _ _ j ∧ upf _ _ _ j < _
      unfold upf
      split
      · omega
      · have := ih.2 j h0 (by omega); omega
    · rw [fcS_f h]
      exact ⟨by omega, fun j h0 h1 => by have := ih.2 j h0 h1; omega⟩
/-- the memory of the search as it is laid out -/
def fiM (M : Me) (p : Int) (i : Nat) : Me := row1 (row1 (up M 8 2 ((fcS M p i).1 : Int)) 9 12 (fcS M p i).2) 10 12 (fun j => if 0 ≤ j ∧ j < (fcS M p i).1 then 0 else M 10 j)
theorem fiM_o {M : Me} {p : Int} {i : Nat} {a j : Int} (h : a ≠ 10 ∧ a ≠ 9 ∧ ¬ (a = 8 ∧ j = 2)) : fiM M p i a j = M a j := (row1_o (by omega)).trans ((row1_o (by omega)).trans (up_ne h.2.2))
theorem fiM_2 {M : Me} {p : Int} {i : Nat} : fiM M p i 8 2 = ((fcS M p i).1 : Int) := (row1_o (by omega)).trans ((row1_o (by omega)).trans (up_eq ⟨rfl, rfl⟩))
theorem fiM_9 {M : Me} {p : Int} {i : Nat} {j : Int} (h : 0 ≤ j ∧ j < 12) : fiM M p i 9 j = (fcS M p i).2 j := (row1_o (by omega)).trans (rd_rX ⟨rfl, h⟩ rfl)
theorem fiM_f {M : Me} {p : Int} {i : Nat} (h : ¬ M 209 (i : Int) = p) : fiM M p i = fiM M p (i + 1) := by unfold fiM; rw [fcS_f h]
theorem fiM_10 {M : Me} {p : Int} {i : Nat} {j : Int} (h : 0 ≤ j ∧ j < 12) : fiM M p i 10 j = if 0 ≤ j ∧ j < (fcS M p i).1 then 0 else M 10 j := rd_rX ⟨rfl, h⟩ rfl
theorem fiM_oo {M : Me} {p : Int} {i : Nat} {a j : Int} (h : ¬ (a = 10 ∧ 0 ≤ j ∧ j < 12) ∧ ¬ (a = 9 ∧ 0 ≤ j ∧ j < 12) ∧ ¬ (a = 8 ∧ j = 2)) : fiM M p i a j = M a j := (row1_o h.1).trans ((row1_o h.2.1).trans (up_ne h.2.2))
theorem fiM_t {M : Me} {p : Int} {i : Nat} (h : M 209 (i : Int) = p) (hk : (fcS M p i).1 < 12) : up (up (up (fiM M p i) 9 ((fcS M p i).1 : Int) i) 10 ((fcS M p i).1 : Int) 0) 8 2 (((fcS M p i).1 : Int) + 1) = fiM M p (i + 1) := by
  have e1 : (fcS M p (i + 1)).1 = (fcS M p i).1 + 1 := by rw [fcS_t h]
  have e2 : (fcS M p (i + 1)).2 = upf (fcS M p i).2 (fcS M p i).1 i := by rw [fcS_t h]
  funext a j
  by_cases h8 : a = 8 ∧ j = 2
  · rw [up_eq h8]; obtain ⟨rfl, rfl⟩ := h8
    rw [fiM_2, e1]; rfl
  · rw [up_ne h8]
    by_cases h10 : a = 10 ∧ 0 ≤ j ∧ j < 12
    · obtain ⟨rfl, hj⟩ := h10
      rw [fiM_10 hj, e1]
      by_cases hj2 : j = ((fcS M p i).1 : Int)
      · rw [up_eq ⟨rfl, hj2⟩, if_pos (by omega)]
      · rw [up_ne (by omega), up_ne (by omega), fiM_10 hj]
        exact ite_c9 ⟨fun q => by omega, fun q => by omega⟩ rfl rfl
    · by_cases h9 : a = 9 ∧ 0 ≤ j ∧ j < 12
      · obtain ⟨rfl, hj⟩ := h9
        rw [up_ne (by omega), fiM_9 hj, e2]
        unfold upf
        by_cases hj2 : j = ((fcS M p i).1 : Int)
        · rw [up_eq ⟨rfl, hj2⟩, if_pos hj2]
        · rw [up_ne (by omega), fiM_9 hj, if_neg hj2]
      · rw [up_ne (by omega), up_ne (by omega), fiM_oo ⟨h10, h9, h8⟩, fiM_oo ⟨h10, h9, h8⟩]
theorem fiM_0 {M : Me} {p : Int} : up M 8 2 0 = fiM M p 0 := by
  funext a j
  unfold fiM row1
  show up M 8 2 0 a j = (if a = 10 ∧ 0 ≤ j ∧ j < 12 then (if 0 ≤ j ∧ j < ((0 : Nat) : Int) then 0 else M 10 j) else if a = 9 ∧ 0 ≤ j ∧ j < 12 then M 9 j else up M 8 2 ((0 : Nat) : Int) a j)
  by_cases h1 : a = 10 ∧ 0 ≤ j ∧ j < 12
  · rw [if_pos h1, if_neg (by omega), up_ne (by omega), h1.1]
  · rw [if_neg h1]
    by_cases h2 : a = 9 ∧ 0 ≤ j ∧ j < 12
    · rw [if_pos h2, up_ne (by omega), h2.1]
    · rw [if_neg h2]; rfl
/-- the left at the beginning -/
def fL (M : Me) : Int → Int := fun j => M 226 j
/-- what is laid out, and what is found -/
def fn1 (M : Me) (p : Int) (n : Nat) : Me := cpy (fiM M p n) 226 0 11 0 8
abbrev fnm (M : Me) (p : Int) (n : Nat) : Nat := (fcS M p n).1
abbrev fnX (M : Me) (p : Int) (n : Nat) : Int → Int := (fcS M p n).2
noncomputable def fnF (M : Me) (p : Int) (n ns : Nat) : Int := cnF M ns (fnm M p n) (fnX M p n) (fnm M p n) (fL M)
noncomputable def fnW (M : Me) (p : Int) (n ns : Nat) (j : Int) : Int := wnF M ns (fnm M p n) (fnX M p n) (fnm M p n) (fL M) j
noncomputable def fnM (M : Me) (p : Int) (n ns : Nat) : Me := up (fdM (fn1 M p n) (fL M) (fun j => (if 0 ≤ j ∧ j < (fnm M p n : Int) then 0 else M 10 j) + fnW M p n ns j)) 8 0 (fnF M p n ns)
theorem fn1_o {M : Me} {p : Int} {n : Nat} {a j : Int} (h : ¬ (a = 11 ∧ 0 ≤ j ∧ j < 8) ∧ a ≠ 10 ∧ a ≠ 9 ∧ ¬ (a = 8 ∧ j = 2)) : fn1 M p n a j = M a j := (cpy_out (by omega)).trans (fiM_o (by omega))
theorem cnF_m {M N : Me} {ns m : Nat} {X : Int → Int} (h1 : ∀ c, N 210 c = M 210 c) (h2 : ∀ c, N 211 c = M 211 c) (h3 : ∀ c, N 224 c = M 224 c) (h4 : ∀ c, N 225 c = M 225 c) : ∀ (k : Nat) (L : Int → Int), cnF N ns m X k L = cnF M ns m X k L ∧ ∀ j, wnF N ns m X k L j = wnF M ns m X k L j := by
  have es : ∀ (c : Int) (L : Int → Int) (i : Int), sbL N c 1 L i = sbL M c 1 L i := fun c L i => by
    funext j
    unfold sbL inS
    rw [h1, h2, h3, h4]
  have ef : ∀ (c : Int) (L : Int → Int) (i : Nat), fiL N c 1 L i = fiL M c 1 L i := fun c L i => by
    induction i with
    | zero => rfl
    | succ i ih =>
      unfold fiL inS
      rw [h1, h2, h3, h4, ih]
  intro k
  induction k with
  | zero => intro L; exact ⟨rfl, fun _ => rfl⟩
  | succ k ih =>
    intro L
    refine ⟨?_, fun j => ?_⟩
    · unfold cnF sb1
      rw [ef, es, (ih L).1, (ih _).1]
    · unfold wnF sb1
      rw [ef, es, (ih L).2 j, (ih _).2 j, (ih _).1]
theorem l_find {x z : Int} {M : Me} {p : Int} {n : Nat} (hn : M 50 3 = (n : Int)) (hn12 : n ≤ 12) {Q : Option AV → Sh → Me → Prop} (hQ : V kX1_find 0 0 15 none Q 75 [(1, 8), (1, 49), (0, p), (9, 0)] [] (Sf x 49 z) (fiM M p n) 0 0) : ∀ (m i : Nat), m + i = n → V kX1_find 0 0 15 none Q 12 [(1, 8), (1, 49), (0, p), (0, (i : Int))] [] (Sf x 49 z) (fiM M p i) 0 0 := by
  intro m
  induction m with
  | zero =>
    intro i hi
    obtain rfl : i = n := by omega
    refine r_iload_n dX1_find_12 rfl ?_
    refine r_aload_n dX1_find_13 rfl (by decide) ?_
    refine r_getr (x := 49) dX1_find_14 flX1_21 sf8 (by decide) (by decide) rfl rfl ?_
    refine r_getr (x := 50) dX1_find_17 flX1_29 sf49 (by decide) (by decide) rfl rfl ?_
    refine r_gi 3 dX1_find_20 flX1_35 sf50 (by decide) (by decide) rfl rfl ((fiM_o (by omega)).trans hn) ?_
    refine r_icmp_ge (tgt := 75) dX1_find_23 (by decide) (fun h23 => ?_) (fun h23 => by exfalso; omega)
    exact wk3 hQ
  | succ m ih =>
    intro i hi
    have hk := (fcS_b (M := M) (p := p) i).1
    refine r_iload_n dX1_find_12 rfl ?_
    refine r_aload_n dX1_find_13 rfl (by decide) ?_
    refine r_getr (x := 49) dX1_find_14 flX1_21 sf8 (by decide) (by decide) rfl rfl ?_
    refine r_getr (x := 50) dX1_find_17 flX1_29 sf49 (by decide) (by decide) rfl rfl ?_
    refine r_gi 3 dX1_find_20 flX1_35 sf50 (by decide) (by decide) rfl rfl ((fiM_o (by omega)).trans hn) ?_
    refine r_icmp_ge (tgt := 75) dX1_find_23 (by decide) (fun h23 => by exfalso; omega) (fun h23 => ?_)
    refine r_aload_n dX1_find_26 rfl (by decide) ?_
    refine r_getr (x := 49) dX1_find_27 flX1_21 sf8 (by decide) (by decide) rfl rfl ?_
    refine r_getr (x := 209) dX1_find_30 flX1_38 sf49 (by decide) (by decide) rfl rfl ?_
    refine r_iload_n dX1_find_33 rfl ?_
    refine r_iald dX1_find_34 sf209 (by decide) (by omega) (by omega) (by decide) (fiM_o (by omega)) ?_
    refine r_iload_n dX1_find_35 rfl ?_
    refine r_icmp_ne (tgt := 69) dX1_find_36 (by decide) (fun h36 => ?_) (fun h36 => ?_)
    · refine V.cm rfl (fiM_f (by assumption)) ?_
      refine r_iinc dX1_find_69 rfl rfl (by decide) (w32_id (by omega)) st3 ?_
      refine r_goto (tgt := 12) dX1_find_72 (by decide) ?_
      exact ih (i + 1) (by omega)
    · refine r_aload_n dX1_find_39 rfl (by decide) ?_
      refine r_getr (x := 9) dX1_find_40 flX1_9 sf8 (by decide) (by decide) rfl rfl ?_
      refine r_aload_n dX1_find_43 rfl (by decide) ?_
      refine r_gi 2 dX1_find_44 flX1_25 sf8 (by decide) (by decide) rfl rfl fiM_2 ?_
      refine r_iload_n dX1_find_47 rfl ?_
      refine r_iast dX1_find_48 sf9 (by decide) (by omega) (by omega) (by decide) rfl ?_
      refine r_aload_n dX1_find_49 rfl (by decide) ?_
      refine r_getr (x := 10) dX1_find_50 flX1_15 sf8 (by decide) (by decide) rfl rfl ?_
      refine r_aload_n dX1_find_53 rfl (by decide) ?_
      refine r_gi 2 dX1_find_54 flX1_25 sf8 (by decide) (by decide) rfl rfl ((up_ne (by omega)).trans fiM_2) ?_
      refine r_iconst dX1_find_57 (by decide) ?_
      refine r_iast dX1_find_58 sf10 (by decide) (by omega) (by omega) (by decide) rfl ?_
      refine r_aload_n dX1_find_59 rfl (by decide) ?_
      refine r_dup dX1_find_60 (Nat.ne_of_beq_eq_false rfl) ?_
      refine r_gi 2 dX1_find_61 flX1_25 sf8 (by decide) (by decide) rfl rfl ((up_ne (by omega)).trans ((up_ne (by omega)).trans fiM_2)) ?_
      refine r_iconst dX1_find_64 (by decide) ?_
      refine r_iadd dX1_find_65 (w32_id (by omega)) ?_
      refine r_pi 2 dX1_find_66 fpX1_25 sf8 (by decide) (by decide) rfl rfl ?_
      refine V.cm rfl (fiM_t (by assumption) (by omega)) ?_
      refine r_iinc dX1_find_69 rfl rfl (by decide) (w32_id (by omega)) st3 ?_
      refine r_goto (tgt := 12) dX1_find_72 (by decide) ?_
      exact ih (i + 1) (by omega)
theorem fd_0 {M : Me} {p : Int} {n : Nat} : fn1 M p n = fdM (fn1 M p n) (fL M) (fun j => if 0 ≤ j ∧ j < (fnm M p n : Int) then 0 else M 10 j) := by
  refine fdM_id.trans (fdM_c (fun c h0 h1 => ?_) (fun c h0 h1 => ?_))
  · exact (cpy_in (by omega)).trans ((fiM_o (by omega)).trans (by rw [show 0 + (c - 0) = c by omega]; rfl))
  · exact (cpy_out (by omega)).trans (rd_rX ⟨rfl, h0, h1⟩ rfl)
theorem fn_fin {M : Me} {p : Int} {n ns : Nat} : fnM M p n ns = up (fdM (fn1 M p n) (fL M) (fun j => (if 0 ≤ j ∧ j < (fnm M p n : Int) then 0 else M 10 j) + wnF (fn1 M p n) ns (fnm M p n) (fnX M p n) (fnm M p n) (fL M) j)) 8 0 (cnF (fn1 M p n) ns (fnm M p n) (fnX M p n) (fnm M p n) (fL M)) := by
  have e := cnF_m (M := M) (N := fn1 M p n) (ns := ns) (m := fnm M p n) (X := fnX M p n) (fun c => fn1_o (by omega)) (fun c => fn1_o (by omega)) (fun c => fn1_o (by omega)) (fun c => fn1_o (by omega)) (fnm M p n) (fL M)
  unfold fnM fnF fnW
  rw [e.1]
  congr 2
  funext j
  rw [e.2 j]
theorem c_find {x y z : Int} {M : Me} {p : Int} (h : CI M) {n : Nat} (hn : M 50 3 = (n : Int)) (hn12 : n ≤ 12) {ns : Nat} (h6 : M 223 0 = (ns : Int)) (h68 : ns ≤ 8) (hs : ∀ j : Int, 0 ≤ j → j < 8 → 0 ≤ M 226 j ∧ M 226 j ≤ 999) (hw : ∀ j : Int, 0 ≤ j → j < 12 → 0 ≤ M 10 j ∧ M 10 j ≤ 100000) : Con kX1_find 15 0 0 [(1, 8), (1, 49), (0, p)] (Sf x y z) M (Ex none (Sf x 49 z) (fnM M p n ns)) := by
  refine Con.ofV (al := [(1, 8), (1, 49), (0, p), (9, 0)]) 1 (by decide) (Nat.le_of_ble_eq_true rfl) rfl ?_
  have hfb : fnm M p n ≤ n ∧ ∀ j : Int, 0 ≤ j → j < (fnm M p n : Int) → 0 ≤ fnX M p n j ∧ fnX M p n j < n := fcS_b (M := M) (p := p) n
  have h3 := h.c
  have hX : ∀ i : Int, 0 ≤ i → i < (fnm M p n : Int) → fn1 M p n 9 i = fnX M p n i ∧ (0 ≤ fnX M p n i ∧ fnX M p n i < 12) ∧ 0 ≤ fn1 M p n 211 (fnX M p n i) ∧ fn1 M p n 211 (fnX M p n i) ≤ 9 := fun i h0 h1 => by
    have b := hfb.2 i h0 h1
    refine ⟨(cpy_out (by omega)).trans (fiM_9 (by omega)), by omega, ?_⟩
    rw [fn1_o (by omega)]
    exact (h.2.1 _ b.1 (by omega)).2.2.2.2.2.1
  have hL : ∀ j : Int, 0 ≤ j → j < 8 → -(12 * 9) + 9 * ((fnm M p n : Nat) : Int) ≤ fL M j ∧ fL M j ≤ 1000 := fun j h0 h1 => by
    have := hs j h0 h1
    show _ ≤ M 226 j ∧ M 226 j ≤ _
    have : ((fnm M p n : Nat) : Int) ≤ 12 := by omega
    omega
  have hp2 := p2_12 (fnm M p n) (by omega)
  have hW : ∀ j : Int, 0 ≤ j → j < 12 → 0 ≤ (if 0 ≤ j ∧ j < (fnm M p n : Int) then 0 else M 10 j) ∧ (if 0 ≤ j ∧ j < (fnm M p n : Int) then 0 else M 10 j) ≤ 1000000 - p2 (fnm M p n) := fun j h0 h1 => by
    have := hw j h0 h1
    split <;> omega
  refine r_aload_n dX1_find_0 rfl (by decide) ?_
  refine r_aload_n dX1_find_1 rfl (by decide) ?_
  refine r_putr dX1_find_2 fpX1_21 sf8 (by decide) (Nat.le_of_ble_eq_true rfl) (by decide) (by decide) rfl rfl ?_
  refine r_aload_n dX1_find_5 rfl (by decide) ?_
  refine r_iconst dX1_find_6 (by decide) ?_
  refine r_pi 2 dX1_find_7 fpX1_25 sf8 (by decide) (by decide) rfl rfl ?_
  refine V.cm rfl (fiM_0 (p := p)) ?_
  refine r_iconst dX1_find_10 (by decide) ?_
  refine r_istore_n dX1_find_11 rfl (by decide) st3 ?_
  refine l_find hn hn12 ?_ n 0 (by omega)
  refine V.cm rfl rfl ?_
  refine r_aload_n dX1_find_75 rfl (by decide) ?_
  refine r_getr (x := 49) dX1_find_76 flX1_21 sf8 (by decide) (by decide) rfl rfl ?_
  refine r_getr (x := 223) dX1_find_79 flX1_41 sf49 (by decide) (by decide) rfl rfl ?_
  refine r_getr (x := 226) dX1_find_82 flX1_45 sf223 (by decide) (by decide) rfl rfl ?_
  refine r_iconst dX1_find_85 (by decide) ?_
  refine r_aload_n dX1_find_86 rfl (by decide) ?_
  refine r_getr (x := 11) dX1_find_87 flX1_18 sf8 (by decide) (by decide) rfl rfl ?_
  refine r_iconst dX1_find_90 (by decide) ?_
  refine r_bipush dX1_find_91 (by decide) (by decide) ?_
  refine r_copy dX1_find_93 clX1_50 ay_2 ay_1 ii_System (by decide) (Nat.le_of_ble_eq_true rfl) sf226 sf11 (by decide) (by decide) (by omega) (by omega) (by omega) (by omega) (by omega) (by first | decide | omega) (by first | decide | omega) rfl ?_
  refine V.cm rfl (show _ = fdM (fn1 M p n) (fL M) (fun j => if 0 ≤ j ∧ j < (fnm M p n : Int) then 0 else M 10 j) from fd_0) ?_
  refine r_aload_n dX1_find_96 rfl (by decide) ?_
  refine r_aload_n dX1_find_97 rfl (by decide) ?_
  refine r_iconst dX1_find_98 (by decide) ?_
  refine r_cs2 dX1_find_99 clX1_56 (by first | decide | omega) (Nat.le_of_ble_eq_true rfl) ((c_findFrom (M := fn1 M p n) (X := fnX M p n) (m := fnm M p n) ((fn1_o (by omega)).trans h6) h68 ((cpy_out (by omega)).trans fiM_2) (by omega) hX (fnm M p n) 0 (fL M) (fun j => if 0 ≤ j ∧ j < (fnm M p n : Int) then 0 else M 10 j) (by omega) (by decide) hL hW)) ⟨Nat.zero_le _, Nat.zero_le _⟩ (fun _ => ?_)
  refine r_pi 0 dX1_find_102 fpX1_60 sf8 (by decide) (by decide) rfl rfl ?_
  refine r_ret0 dX1_find_105 rfl ?_
  exact ⟨rfl, rfl, by rw [fn_fin]⟩
theorem l_sure {x y z : Int} {M : Me} {m : Nat} (hm : M 8 2 = (m : Int)) (hm12 : m ≤ 12) {F : Int} (hf : M 8 0 = F) (hF : 0 < F) : ∀ (q i : Nat), q + i = m → V kX1_sure 0 0 0 none (Ex (some (0, bset (fun j : Int => M 10 j = F) (fun j => M 9 j) m)) (Sf x y z) M) 4 [(1, 8), (0, bset (fun j : Int => M 10 j = F) (fun j => M 9 j) i), (0, (i : Int))] [] (Sf x y z) M 0 0 := by
  intro q
  induction q with
  | zero =>
    intro i hi
    obtain rfl : i = m := by omega
    refine r_iload_n dX1_sure_4 rfl ?_
    refine r_aload_n dX1_sure_5 rfl (by decide) ?_
    refine r_gi 2 dX1_sure_6 flX1_25 sf8 (by decide) (by decide) rfl rfl hm ?_
    refine r_icmp_ge (tgt := 53) dX1_sure_9 (by decide) (fun h9 => ?_) (fun h9 => by exfalso; omega)
    refine r_iload_n dX1_sure_53 rfl ?_
    refine r_iret dX1_sure_54 rfl ?_
    exact ⟨rfl, rfl, rfl⟩
  | succ q ih =>
    intro i hi
    refine r_iload_n dX1_sure_4 rfl ?_
    refine r_aload_n dX1_sure_5 rfl (by decide) ?_
    refine r_gi 2 dX1_sure_6 flX1_25 sf8 (by decide) (by decide) rfl rfl hm ?_
    refine r_icmp_ge (tgt := 53) dX1_sure_9 (by decide) (fun h9 => by exfalso; omega) (fun h9 => ?_)
    refine r_aload_n dX1_sure_12 rfl (by decide) ?_
    refine r_gi 0 dX1_sure_13 flX1_60 sf8 (by decide) (by decide) rfl rfl hf ?_
    refine r_if_le (tgt := 53) dX1_sure_16 (by decide) (fun h16 => by exfalso; omega) (fun h16 => ?_)
    refine r_iload_n dX1_sure_19 rfl ?_
    refine r_aload_n dX1_sure_20 rfl (by decide) ?_
    refine r_getr (x := 10) dX1_sure_21 flX1_15 sf8 (by decide) (by decide) rfl rfl ?_
    refine r_iload_n dX1_sure_24 rfl ?_
    refine r_iald dX1_sure_25 sf10 (by decide) (by omega) (by omega) (by decide) rfl ?_
    refine r_aload_n dX1_sure_26 rfl (by decide) ?_
    refine r_gi 0 dX1_sure_27 flX1_60 sf8 (by decide) (by decide) rfl rfl hf ?_
    refine r_icmp_ne (tgt := 44) dX1_sure_30 (by decide) (fun h30 => ?_) (fun h30 => ?_)
    · refine r_iconst dX1_sure_44 (by decide) ?_
      refine r_ior dX1_sure_45 rfl ?_
      refine r_istore_n dX1_sure_46 rfl (by decide) st1 ?_
      refine r_iinc dX1_sure_47 rfl rfl (by decide) (w32_id (by omega)) st2 ?_
      refine r_goto (tgt := 4) dX1_sure_50 (by decide) ?_
      first | exact V.al (by rw [bset_t (p := (fun j : Int => M 10 j = F)) (f := fun j => M 9 j) (by assumption)]; rfl) (ih (i + 1) (by omega)) | exact V.al (by rw [bset_f (p := (fun j : Int => M 10 j = F)) (f := fun j => M 9 j) (by assumption)]; rfl) (ih (i + 1) (by omega))
    · refine r_iconst dX1_sure_33 (by decide) ?_
      refine r_aload_n dX1_sure_34 rfl (by decide) ?_
      refine r_getr (x := 9) dX1_sure_35 flX1_9 sf8 (by decide) (by decide) rfl rfl ?_
      refine r_iload_n dX1_sure_38 rfl ?_
      refine r_iald dX1_sure_39 sf9 (by decide) (by omega) (by omega) (by decide) (by first | assumption | ((repeat (first | (apply rd_ne; · omega) | (apply rd_eq; · omega) | (apply rd_out; · omega) | (apply rd_in; · omega))); first | assumption | rfl)) ?_
      refine r_ishl dX1_sure_40 rfl ?_
      refine r_goto (tgt := 45) dX1_sure_41 (by decide) ?_
      refine r_ior dX1_sure_45 rfl ?_
      refine r_istore_n dX1_sure_46 rfl (by decide) st1 ?_
      refine r_iinc dX1_sure_47 rfl rfl (by decide) (w32_id (by omega)) st2 ?_
      refine r_goto (tgt := 4) dX1_sure_50 (by decide) ?_
      first | exact V.al (by rw [bset_t (p := (fun j : Int => M 10 j = F)) (f := fun j => M 9 j) (by assumption)]; rfl) (ih (i + 1) (by omega)) | exact V.al (by rw [bset_f (p := (fun j : Int => M 10 j = F)) (f := fun j => M 9 j) (by assumption)]; rfl) (ih (i + 1) (by omega))
theorem c_sure {x y z : Int} {M : Me} {m : Nat} (hm : M 8 2 = (m : Int)) (hm12 : m ≤ 12) {F : Int} (hf : M 8 0 = F) : Con kX1_sure 0 0 0 [(1, 8)] (Sf x y z) M (Ex (some (0, if 0 < F then bset (fun j : Int => M 10 j = F) (fun j => M 9 j) m else 0)) (Sf x y z) M) := by
  refine Con.ofV (al := [(1, 8), (9, 0), (9, 0)]) 2 (by decide) (Nat.le_of_ble_eq_true rfl) rfl ?_
  refine r_iconst dX1_sure_0 (by decide) ?_
  refine r_istore_n dX1_sure_1 rfl (by decide) st1 ?_
  refine r_iconst dX1_sure_2 (by decide) ?_
  refine r_istore_n dX1_sure_3 rfl (by decide) st2 ?_
  by_cases hF : 0 < F
  · rw [if_pos hF]; exact l_sure hm hm12 hf hF m 0 (by omega)
  · rw [if_neg hF]
    refine r_iload_n dX1_sure_4 rfl ?_
    refine r_aload_n dX1_sure_5 rfl (by decide) ?_
    refine r_gi 2 dX1_sure_6 flX1_25 sf8 (by decide) (by decide) rfl rfl hm ?_
    refine r_icmp_ge (tgt := 53) dX1_sure_9 (by decide) (fun h9 => ?_) (fun h9 => ?_)
    · refine r_iload_n dX1_sure_53 rfl ?_
      refine r_iret dX1_sure_54 rfl ?_
      exact ⟨rfl, rfl, rfl⟩
    · refine r_aload_n dX1_sure_12 rfl (by decide) ?_
      refine r_gi 0 dX1_sure_13 flX1_60 sf8 (by decide) (by decide) rfl rfl hf ?_
      refine r_if_le (tgt := 53) dX1_sure_16 (by decide) (fun h16 => ?_) (fun h16 => by exfalso; omega)
      refine r_iload_n dX1_sure_53 rfl ?_
      refine r_iret dX1_sure_54 rfl ?_
      exact ⟨rfl, rfl, rfl⟩
theorem l_never {x y z : Int} {M : Me} {m : Nat} (hm : M 8 2 = (m : Int)) (hm12 : m ≤ 12) {F : Int} (hf : M 8 0 = F) (hF : 0 < F) : ∀ (q i : Nat), q + i = m → V kX1_never 0 0 0 none (Ex (some (0, bset (fun j : Int => M 10 j = 0) (fun j => M 9 j) m)) (Sf x y z) M) 4 [(1, 8), (0, bset (fun j : Int => M 10 j = 0) (fun j => M 9 j) i), (0, (i : Int))] [] (Sf x y z) M 0 0 := by
  intro q
  induction q with
  | zero =>
    intro i hi
    obtain rfl : i = m := by omega
    refine r_iload_n dX1_never_4 rfl ?_
    refine r_aload_n dX1_never_5 rfl (by decide) ?_
    refine r_gi 2 dX1_never_6 flX1_25 sf8 (by decide) (by decide) rfl rfl hm ?_
    refine r_icmp_ge (tgt := 49) dX1_never_9 (by decide) (fun h9 => ?_) (fun h9 => by exfalso; omega)
    refine r_iload_n dX1_never_49 rfl ?_
    refine r_iret dX1_never_50 rfl ?_
    exact ⟨rfl, rfl, rfl⟩
  | succ q ih =>
    intro i hi
    refine r_iload_n dX1_never_4 rfl ?_
    refine r_aload_n dX1_never_5 rfl (by decide) ?_
    refine r_gi 2 dX1_never_6 flX1_25 sf8 (by decide) (by decide) rfl rfl hm ?_
    refine r_icmp_ge (tgt := 49) dX1_never_9 (by decide) (fun h9 => by exfalso; omega) (fun h9 => ?_)
    refine r_aload_n dX1_never_12 rfl (by decide) ?_
    refine r_gi 0 dX1_never_13 flX1_60 sf8 (by decide) (by decide) rfl rfl hf ?_
    refine r_if_le (tgt := 49) dX1_never_16 (by decide) (fun h16 => by exfalso; omega) (fun h16 => ?_)
    refine r_iload_n dX1_never_19 rfl ?_
    refine r_aload_n dX1_never_20 rfl (by decide) ?_
    refine r_getr (x := 10) dX1_never_21 flX1_15 sf8 (by decide) (by decide) rfl rfl ?_
    refine r_iload_n dX1_never_24 rfl ?_
    refine r_iald dX1_never_25 sf10 (by decide) (by omega) (by omega) (by decide) rfl ?_
    refine r_if_ne (tgt := 40) dX1_never_26 (by decide) (fun h26 => ?_) (fun h26 => ?_)
    · refine r_iconst dX1_never_40 (by decide) ?_
      refine r_ior dX1_never_41 rfl ?_
      refine r_istore_n dX1_never_42 rfl (by decide) st1 ?_
      refine r_iinc dX1_never_43 rfl rfl (by decide) (w32_id (by omega)) st2 ?_
      refine r_goto (tgt := 4) dX1_never_46 (by decide) ?_
      first | exact V.al (by rw [bset_t (p := (fun j : Int => M 10 j = 0)) (f := fun j => M 9 j) (by assumption)]; rfl) (ih (i + 1) (by omega)) | exact V.al (by rw [bset_f (p := (fun j : Int => M 10 j = 0)) (f := fun j => M 9 j) (by assumption)]; rfl) (ih (i + 1) (by omega))
    · refine r_iconst dX1_never_29 (by decide) ?_
      refine r_aload_n dX1_never_30 rfl (by decide) ?_
      refine r_getr (x := 9) dX1_never_31 flX1_9 sf8 (by decide) (by decide) rfl rfl ?_
      refine r_iload_n dX1_never_34 rfl ?_
      refine r_iald dX1_never_35 sf9 (by decide) (by omega) (by omega) (by decide) (by first | assumption | ((repeat (first | (apply rd_ne; · omega) | (apply rd_eq; · omega) | (apply rd_out; · omega) | (apply rd_in; · omega))); first | assumption | rfl)) ?_
      refine r_ishl dX1_never_36 rfl ?_
      refine r_goto (tgt := 41) dX1_never_37 (by decide) ?_
      refine r_ior dX1_never_41 rfl ?_
      refine r_istore_n dX1_never_42 rfl (by decide) st1 ?_
      refine r_iinc dX1_never_43 rfl rfl (by decide) (w32_id (by omega)) st2 ?_
      refine r_goto (tgt := 4) dX1_never_46 (by decide) ?_
      first | exact V.al (by rw [bset_t (p := (fun j : Int => M 10 j = 0)) (f := fun j => M 9 j) (by assumption)]; rfl) (ih (i + 1) (by omega)) | exact V.al (by rw [bset_f (p := (fun j : Int => M 10 j = 0)) (f := fun j => M 9 j) (by assumption)]; rfl) (ih (i + 1) (by omega))
theorem c_never {x y z : Int} {M : Me} {m : Nat} (hm : M 8 2 = (m : Int)) (hm12 : m ≤ 12) {F : Int} (hf : M 8 0 = F) : Con kX1_never 0 0 0 [(1, 8)] (Sf x y z) M (Ex (some (0, if 0 < F then bset (fun j : Int => M 10 j = 0) (fun j => M 9 j) m else 0)) (Sf x y z) M) := by
  refine Con.ofV (al := [(1, 8), (9, 0), (9, 0)]) 2 (by decide) (Nat.le_of_ble_eq_true rfl) rfl ?_
  refine r_iconst dX1_never_0 (by decide) ?_
  refine r_istore_n dX1_never_1 rfl (by decide) st1 ?_
  refine r_iconst dX1_never_2 (by decide) ?_
  refine r_istore_n dX1_never_3 rfl (by decide) st2 ?_
  by_cases hF : 0 < F
  · rw [if_pos hF]; exact l_never hm hm12 hf hF m 0 (by omega)
  · rw [if_neg hF]
    refine r_iload_n dX1_never_4 rfl ?_
    refine r_aload_n dX1_never_5 rfl (by decide) ?_
    refine r_gi 2 dX1_never_6 flX1_25 sf8 (by decide) (by decide) rfl rfl hm ?_
    refine r_icmp_ge (tgt := 49) dX1_never_9 (by decide) (fun h9 => ?_) (fun h9 => ?_)
    · refine r_iload_n dX1_never_49 rfl ?_
      refine r_iret dX1_never_50 rfl ?_
      exact ⟨rfl, rfl, rfl⟩
    · refine r_aload_n dX1_never_12 rfl (by decide) ?_
      refine r_gi 0 dX1_never_13 flX1_60 sf8 (by decide) (by decide) rfl rfl hf ?_
      refine r_if_le (tgt := 49) dX1_never_16 (by decide) (fun h16 => ?_) (fun h16 => by exfalso; omega)
      refine r_iload_n dX1_never_49 rfl ?_
      refine r_iret dX1_never_50 rfl ?_
      exact ⟨rfl, rfl, rfl⟩
def akD (F x : Int) : Int := if F ≤ 2 * x then 2 * x - F else F - 2 * x
/-- the one to ask next, and how far it is from half -/
def akS (X W : Int → Int) (F : Int) : Nat → Int × Int
  | 0 => (-1, 1000000)
  | i + 1 => if (0 < W i ∧ W i < F) ∧ akD F (W i) < (akS X W F i).2 then (X i, akD F (W i)) else akS X W F i
theorem akS_t {X W : Int → Int} {F : Int} {i : Nat} (h : (0 < W i ∧ W i < F) ∧ akD F (W i) < (akS X W F i).2) : akS X W F (i + 1) = (X i, akD F (W i)) := if_pos h
theorem akS_f {X W : Int → Int} {F : Int} {i : Nat} (h : ¬ ((0 < W i ∧ W i < F) ∧ akD F (W i) < (akS X W F i).2)) : akS X W F (i + 1) = akS X W F i := if_neg h
theorem l_asked {x y z : Int} {M : Me} {m : Nat} (hm : M 8 2 = (m : Int)) (hm12 : m ≤ 12) {F : Int} (hf : M 8 0 = F) (hF : 0 ≤ F ∧ F ≤ 100000) (hW : ∀ j : Int, 0 ≤ j → j < m → 0 ≤ M 10 j ∧ M 10 j ≤ 100000) : ∀ (q i : Nat), q + i = m → V kX1_asked 0 0 1 none (Ex (some (0, (akS (fun j => M 9 j) (fun j => M 10 j) F m).1)) (Sf x y z) M) 7 [(1, 8), (0, (akS (fun j => M 9 j) (fun j => M 10 j) F i).1), (0, (akS (fun j => M 9 j) (fun j => M 10 j) F i).2), (0, (i : Int)), (9, 0)] [] (Sf x y z) M 0 0 := by
  intro q
  induction q with
  | zero =>
    intro i hi
    obtain rfl : i = m := by omega
    refine r_iload_n dX1_asked_7 rfl ?_
    refine r_aload_n dX1_asked_8 rfl (by decide) ?_
    refine r_gi 2 dX1_asked_9 flX1_25 sf8 (by decide) (by decide) rfl rfl hm ?_
    refine r_icmp_ge (tgt := 77) dX1_asked_12 (by decide) (fun h12 => ?_) (fun h12 => by exfalso; omega)
    refine r_iload_n dX1_asked_77 rfl ?_
    refine r_iret dX1_asked_78 rfl ?_
    exact ⟨rfl, rfl, rfl⟩
  | succ q ih =>
    intro i hi
    have hw := hW i (by omega) (by omega)
    have ih9 := ih (i + 1) (by omega)
    refine r_iload_n dX1_asked_7 rfl ?_
    refine r_aload_n dX1_asked_8 rfl (by decide) ?_
    refine r_gi 2 dX1_asked_9 flX1_25 sf8 (by decide) (by decide) rfl rfl hm ?_
    refine r_icmp_ge (tgt := 77) dX1_asked_12 (by decide) (fun h12 => by exfalso; omega) (fun h12 => ?_)
    refine r_iconst dX1_asked_15 (by decide) ?_
    refine r_aload_n dX1_asked_16 rfl (by decide) ?_
    refine r_getr (x := 10) dX1_asked_17 flX1_15 sf8 (by decide) (by decide) rfl rfl ?_
    refine r_iload_n dX1_asked_20 rfl ?_
    refine r_iald dX1_asked_21 sf10 (by decide) (by omega) (by omega) (by decide) rfl ?_
    refine r_imul dX1_asked_22 (w32_id (by omega)) ?_
    refine r_aload_n dX1_asked_23 rfl (by decide) ?_
    refine r_gi 0 dX1_asked_24 flX1_60 sf8 (by decide) (by decide) rfl rfl hf ?_
    refine r_isub dX1_asked_27 (w32_id (by omega)) ?_
    refine r_mabs dX1_asked_28 clmX1_87 ma_abs1 ii_Math ma_abs2 (by decide) (Nat.le_of_ble_eq_true rfl) (show _ = akD F (M 10 i) by unfold akD; split <;> split <;> first | omega | exact (w32_id (by omega)).trans (by omega)) ?_
    refine r_istore dX1_asked_31 rfl (by decide) st4 ?_
    refine r_aload_n dX1_asked_33 rfl (by decide) ?_
    refine r_getr (x := 10) dX1_asked_34 flX1_15 sf8 (by decide) (by decide) rfl rfl ?_
    refine r_iload_n dX1_asked_37 rfl ?_
    refine r_iald dX1_asked_38 sf10 (by decide) (by omega) (by omega) (by decide) rfl ?_
    refine r_if_le (tgt := 71) dX1_asked_39 (by decide) (fun h39 => ?_) (fun h39 => ?_)
    · refine r_iinc dX1_asked_71 rfl rfl (by decide) (w32_id (by omega)) st3 ?_
      refine r_goto (tgt := 7) dX1_asked_74 (by decide) ?_
      refine wk4 ?_
      first | (rw [akS_t ⟨⟨by assumption, by assumption⟩, by assumption⟩] at ih9; exact ih9) | (rw [akS_f (fun q => by have q1 := q.1.1; have q2 := q.1.2; have q3 := q.2; (try dsimp only at q1 q2 q3); omega)] at ih9; exact ih9)
    · refine r_aload_n dX1_asked_42 rfl (by decide) ?_
      refine r_getr (x := 10) dX1_asked_43 flX1_15 sf8 (by decide) (by decide) rfl rfl ?_
      refine r_iload_n dX1_asked_46 rfl ?_
      refine r_iald dX1_asked_47 sf10 (by decide) (by omega) (by omega) (by decide) rfl ?_
      refine r_aload_n dX1_asked_48 rfl (by decide) ?_
      refine r_gi 0 dX1_asked_49 flX1_60 sf8 (by decide) (by decide) rfl rfl hf ?_
      refine r_icmp_ge (tgt := 71) dX1_asked_52 (by decide) (fun h52 => ?_) (fun h52 => ?_)
      · refine r_iinc dX1_asked_71 rfl rfl (by decide) (w32_id (by omega)) st3 ?_
        refine r_goto (tgt := 7) dX1_asked_74 (by decide) ?_
        refine wk4 ?_
        first | (rw [akS_t ⟨⟨by assumption, by assumption⟩, by assumption⟩] at ih9; exact ih9) | (rw [akS_f (fun q => by have q1 := q.1.1; have q2 := q.1.2; have q3 := q.2; (try dsimp only at q1 q2 q3); omega)] at ih9; exact ih9)
      · refine r_iload dX1_asked_55 rfl ?_
        refine r_iload_n dX1_asked_57 rfl ?_
        refine r_icmp_ge (tgt := 71) dX1_asked_58 (by decide) (fun h58 => ?_) (fun h58 => ?_)
        · refine r_iinc dX1_asked_71 rfl rfl (by decide) (w32_id (by omega)) st3 ?_
          refine r_goto (tgt := 7) dX1_asked_74 (by decide) ?_
          refine wk4 ?_
          first | (rw [akS_t ⟨⟨by assumption, by assumption⟩, by assumption⟩] at ih9; exact ih9) | (rw [akS_f (fun q => by have q1 := q.1.1; have q2 := q.1.2; have q3 := q.2; (try dsimp only at q1 q2 q3); omega)] at ih9; exact ih9)
        · refine r_aload_n dX1_asked_61 rfl (by decide) ?_
          refine r_getr (x := 9) dX1_asked_62 flX1_9 sf8 (by decide) (by decide) rfl rfl ?_
          refine r_iload_n dX1_asked_65 rfl ?_
          refine r_iald dX1_asked_66 sf9 (by decide) (by omega) (by omega) (by decide) rfl ?_
          refine r_istore_n dX1_asked_67 rfl (by decide) st1 ?_
          refine r_iload dX1_asked_68 rfl ?_
          refine r_istore_n dX1_asked_70 rfl (by decide) st2 ?_
          refine r_iinc dX1_asked_71 rfl rfl (by decide) (w32_id (by omega)) st3 ?_
          refine r_goto (tgt := 7) dX1_asked_74 (by decide) ?_
          refine wk4 ?_
          first | (rw [akS_t ⟨⟨by assumption, by assumption⟩, by assumption⟩] at ih9; exact ih9) | (rw [akS_f (fun q => by have q1 := q.1.1; have q2 := q.1.2; have q3 := q.2; (try dsimp only at q1 q2 q3); omega)] at ih9; exact ih9)
theorem c_asked {x y z : Int} {M : Me} {m : Nat} (hm : M 8 2 = (m : Int)) (hm12 : m ≤ 12) {F : Int} (hf : M 8 0 = F) (hF : 0 ≤ F ∧ F ≤ 100000) (hW : ∀ j : Int, 0 ≤ j → j < m → 0 ≤ M 10 j ∧ M 10 j ≤ 100000) : Con kX1_asked 1 0 0 [(1, 8)] (Sf x y z) M (Ex (some (0, (akS (fun j => M 9 j) (fun j => M 10 j) F m).1)) (Sf x y z) M) := by
  refine Con.ofV (al := [(1, 8), (9, 0), (9, 0), (9, 0), (9, 0)]) 4 (by decide) (Nat.le_of_ble_eq_true rfl) rfl ?_
  refine r_iconst dX1_asked_0 (by decide) ?_
  refine r_istore_n dX1_asked_1 rfl (by decide) st1 ?_
  refine r_ldc (x := 1000000) dX1_asked_2 ctX1_86 (by decide) ?_
  refine r_istore_n dX1_asked_4 rfl (by decide) st2 ?_
  refine r_iconst dX1_asked_5 (by decide) ?_
  refine r_istore_n dX1_asked_6 rfl (by decide) st3 ?_
  exact l_asked hm hm12 hf hF hW m 0 (by omega)
