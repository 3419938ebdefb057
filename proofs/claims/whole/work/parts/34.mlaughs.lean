/-- a row laid anew -/
def row1 (M : Me) (r n : Int) (X : Int → Int) : Me := fun a j => if a = r ∧ 0 ≤ j ∧ j < n then X j else M a j
theorem row1_o {M : Me} {r n : Int} {X : Int → Int} {a j : Int} (h : ¬ (a = r ∧ 0 ≤ j ∧ j < n)) : row1 M r n X a j = M a j := by unfold row1; rw [if_neg h]
theorem rd_r0 {M : Me} {r n : Int} {X : Int → Int} {a j z : Int} (h : ¬ (a = r ∧ 0 ≤ j ∧ j < n)) (k : M a j = z) : row1 M r n X a j = z := (row1_o h).trans k
theorem rd_rX {M : Me} {r n : Int} {X : Int → Int} {a j z : Int} (h : a = r ∧ 0 ≤ j ∧ j < n) (k : X j = z) : row1 M r n X a j = z := by unfold row1; rw [if_pos h]; exact k
theorem row1_c {M : Me} {r n : Int} {X X' : Int → Int} (h : ∀ c, 0 ≤ c → c < n → X c = X' c) : row1 M r n X = row1 M r n X' := by
  funext a j
  unfold row1
  by_cases h1 : a = r ∧ 0 ≤ j ∧ j < n
  · rw [if_pos h1, if_pos h1, h j h1.2.1 h1.2.2]
  · rw [if_neg h1, if_neg h1]
theorem row1_id {M : Me} {r n : Int} : M = row1 M r n (fun c => M r c) := by
  funext a j
  unfold row1
  split
  · rename_i h; rw [h.1]
  · rfl
theorem row1_up {M : Me} {r n y v : Int} {X X' : Int → Int} (hy : 0 ≤ y ∧ y < n) (h : ∀ c, 0 ≤ c → c < n → X' c = if c = y then v else X c) : up (row1 M r n X) r y v = row1 M r n X' := by
  funext a j
  unfold up row1
  by_cases h1 : a = r ∧ j = y
  · rw [if_pos h1, if_pos (by omega), h j (by omega) (by omega), if_pos h1.2]
  · rw [if_neg h1]
    by_cases h2 : a = r ∧ 0 ≤ j ∧ j < n
    · rw [if_pos h2, if_pos h2, h j h2.2.1 h2.2.2, if_neg (fun q => h1 ⟨h2.1, q⟩)]
    · rw [if_neg h2, if_neg h2]
/-- whose turn it is (w: what each is worth, T: the turns so far); the turns behind s laughs -/
def bB (w T : Int → Int) : Nat → Int
  | 0 => 0
  | k + 1 => if w (bB w T k) * (T ((k : Int) + 1) + 1) < w ((k : Int) + 1) * (T (bB w T k) + 1) then (k : Int) + 1 else bB w T k
def tnS (w : Int → Int) (n : Nat) : Nat → Int → Int
  | 0, _ => 0
  | s + 1, c => if c = bB w (tnS w n s) (n - 1) then tnS w n s c + 1 else tnS w n s c
theorem bB_b {w T : Int → Int} : ∀ k : Nat, 0 ≤ bB w T k ∧ bB w T k ≤ k := by
  intro k
  induction k with
  | zero => exact (show 0 ≤ (0 : Int) ∧ (0 : Int) ≤ ((0 : Nat) : Int) by omega)
  | succ k ih => unfold bB; split <;> omega
theorem bB_t {w T : Int → Int} {k : Nat} (h : w (bB w T k) * (T ((k : Int) + 1) + 1) < w ((k : Int) + 1) * (T (bB w T k) + 1)) : bB w T (k + 1) = (k : Int) + 1 := if_pos h
theorem bB_f {w T : Int → Int} {k : Nat} (h : ¬ w (bB w T k) * (T ((k : Int) + 1) + 1) < w ((k : Int) + 1) * (T (bB w T k) + 1)) : bB w T (k + 1) = bB w T k := if_neg h
theorem tnS_b {w : Int → Int} {n : Nat} (c : Int) : ∀ s : Nat, 0 ≤ tnS w n s c ∧ tnS w n s c ≤ s := by
  intro s
  induction s with
  | zero => exact (show 0 ≤ (0 : Int) ∧ (0 : Int) ≤ ((0 : Nat) : Int) by omega)
  | succ s ih => unfold tnS; split <;> omega
theorem tnS_s {w : Int → Int} {n s : Nat} (c : Int) : tnS w n (s + 1) c = if c = bB w (tnS w n s) (n - 1) then tnS w n s (bB w (tnS w n s) (n - 1)) + 1 else tnS w n s c := by
  by_cases h : c = bB w (tnS w n s) (n - 1)
  · rw [if_pos h, ← h]; exact if_pos h
  · rw [if_neg h]; exact if_neg h
theorem mb2 {a b : Int} (ha : 0 ≤ a ∧ a ≤ 999) (hb : 0 ≤ b ∧ b ≤ 1000) : 0 ≤ a * b ∧ a * b ≤ 999000 := ⟨Int.mul_nonneg ha.1 hb.1, Int.le_trans (Int.mul_le_mul ha.2 hb.2 hb.1 (by decide)) (by decide)⟩
theorem mb3 {a b : Int} (ha : 0 ≤ a ∧ a ≤ 999) (hb : 0 ≤ b ∧ b ≤ 1000) : -2147483648 ≤ a * b ∧ a * b < 2147483648 := by have := mb2 ha hb; omega
theorem l_turns3 {x y z : Int} {M : Me} {n : Nat} (hn : M 430 7 = (n : Int)) (hn1 : 1 ≤ n) (hn6 : n ≤ 6) (hw : ∀ i : Int, 0 ≤ i → i < n → 1 ≤ M 430 (162 + i) ∧ M 430 (162 + i) ≤ 999) {t : Nat} (ht : t ≤ 99) {s : Nat} (hs : s < t) {Q : Option AV → Sh → Me → Prop} (hc : V kX11_layTurns 0 0 0 none Q 97 [(1, 429), (0, (t : Int)), (0, (s : Int)), (0, bB (fun i => M 430 (162 + i)) (tnS (fun i => M 430 (162 + i)) n s) (n - 1)), (9, 0)] [] (Sf x y z) (row1 M 441 6 (tnS (fun i => M 430 (162 + i)) n s)) 0 0) : ∀ (m k : Nat), m + k + 1 = n → V kX11_layTurns 0 0 0 none Q 33 [(1, 429), (0, (t : Int)), (0, (s : Int)), (0, bB (fun i => M 430 (162 + i)) (tnS (fun i => M 430 (162 + i)) n s) k), (0, (k : Int) + 1)] [] (Sf x y z) (row1 M 441 6 (tnS (fun i => M 430 (162 + i)) n s)) 0 0 := by
  intro m
  induction m with
  | zero =>
    intro k hi
    obtain rfl : k = n - 1 := by omega
    refine r_iload dX11_layTurns_33 rfl ?_
    refine r_aload_n dX11_layTurns_35 rfl (by decide) ?_
    refine r_getr (x := 430) dX11_layTurns_36 flX11_7 sf429 (by decide) (by decide) rfl rfl ?_
    refine r_bipush dX11_layTurns_39 (by decide) (by decide) ?_
    refine r_iald dX11_layTurns_41 sf430 (by decide) (by omega) (by omega) (by decide) ((row1_o (by omega)).trans hn) ?_
    refine r_icmp_ge (tgt := 97) dX11_layTurns_42 (by decide) (fun h42 => ?_) (fun h42 => by exfalso; omega)
    exact wk4 hc
  | succ m ih =>
    intro k hi
    have h0 := bB_b (w := (fun i => M 430 (162 + i))) (T := (tnS (fun i => M 430 (162 + i)) n s)) k
    have h1 := tnS_b (w := (fun i => M 430 (162 + i))) (n := n) (bB (fun i => M 430 (162 + i)) (tnS (fun i => M 430 (162 + i)) n s) k) s
    have h2 := tnS_b (w := (fun i => M 430 (162 + i))) (n := n) ((k : Int) + 1) s
    have h3 := hw ((k : Int) + 1) (by omega) (by omega)
    have h4 := hw (bB (fun i => M 430 (162 + i)) (tnS (fun i => M 430 (162 + i)) n s) k) (by omega) (by omega)
    refine r_iload dX11_layTurns_33 rfl ?_
    refine r_aload_n dX11_layTurns_35 rfl (by decide) ?_
    refine r_getr (x := 430) dX11_layTurns_36 flX11_7 sf429 (by decide) (by decide) rfl rfl ?_
    refine r_bipush dX11_layTurns_39 (by decide) (by decide) ?_
    refine r_iald dX11_layTurns_41 sf430 (by decide) (by omega) (by omega) (by decide) ((row1_o (by omega)).trans hn) ?_
    refine r_icmp_ge (tgt := 97) dX11_layTurns_42 (by decide) (fun h42 => by exfalso; omega) (fun h42 => ?_)
    refine r_aload_n dX11_layTurns_45 rfl (by decide) ?_
    refine r_getr (x := 430) dX11_layTurns_46 flX11_7 sf429 (by decide) (by decide) rfl rfl ?_
    refine r_sipush dX11_layTurns_49 (by decide) (by decide) ?_
    refine r_iload dX11_layTurns_52 rfl ?_
    refine r_iadd dX11_layTurns_54 (w32_id (by omega)) ?_
    refine r_iald dX11_layTurns_55 sf430 (by decide) (by omega) (by omega) (by decide) (row1_o (by omega)) ?_
    refine r_aload_n dX11_layTurns_56 rfl (by decide) ?_
    refine r_getr (x := 441) dX11_layTurns_57 flX11_52 sf429 (by decide) (by decide) rfl rfl ?_
    refine r_iload_n dX11_layTurns_60 rfl ?_
    refine r_iald dX11_layTurns_61 sf441 (by decide) (by omega) (by omega) (by decide) (rd_rX (by omega) rfl) ?_
    refine r_iconst dX11_layTurns_62 (by decide) ?_
    refine r_iadd dX11_layTurns_63 (w32_id (by omega)) ?_
    refine r_imul dX11_layTurns_64 (w32_id (mb3 (by omega) (by omega))) ?_
    refine r_aload_n dX11_layTurns_65 rfl (by decide) ?_
    refine r_getr (x := 430) dX11_layTurns_66 flX11_7 sf429 (by decide) (by decide) rfl rfl ?_
    refine r_sipush dX11_layTurns_69 (by decide) (by decide) ?_
    refine r_iload_n dX11_layTurns_72 rfl ?_
    refine r_iadd dX11_layTurns_73 (w32_id (by omega)) ?_
    refine r_iald dX11_layTurns_74 sf430 (by decide) (by omega) (by omega) (by decide) (row1_o (by omega)) ?_
    refine r_aload_n dX11_layTurns_75 rfl (by decide) ?_
    refine r_getr (x := 441) dX11_layTurns_76 flX11_52 sf429 (by decide) (by decide) rfl rfl ?_
    refine r_iload dX11_layTurns_79 rfl ?_
    refine r_iald dX11_layTurns_81 sf441 (by decide) (by omega) (by omega) (by decide) (rd_rX (by omega) rfl) ?_
    refine r_iconst dX11_layTurns_82 (by decide) ?_
    refine r_iadd dX11_layTurns_83 (w32_id (by omega)) ?_
    refine r_imul dX11_layTurns_84 (w32_id (mb3 (by omega) (by omega))) ?_
    refine r_icmp_le (tgt := 91) dX11_layTurns_85 (by decide) (fun h85 => ?_) (fun h85 => ?_)
    · refine r_iinc dX11_layTurns_91 rfl rfl (by decide) (w32_id (by omega)) st4 ?_
      refine r_goto (tgt := 33) dX11_layTurns_94 (by decide) ?_
      first | exact V.al (by rw [bB_t (Int.not_le.mp h85)]; rfl) (ih (k + 1) (by omega)) | exact V.al (by rw [bB_f (Int.not_lt.mpr h85)]; rfl) (ih (k + 1) (by omega)) | exact V.al (by rw [bB_t h85]; rfl) (ih (k + 1) (by omega)) | exact V.al (by rw [bB_f h85]; rfl) (ih (k + 1) (by omega))
    · refine r_iload dX11_layTurns_88 rfl ?_
      refine r_istore_n dX11_layTurns_90 rfl (by decide) st3 ?_
      refine r_iinc dX11_layTurns_91 rfl rfl (by decide) (w32_id (by omega)) st4 ?_
      refine r_goto (tgt := 33) dX11_layTurns_94 (by decide) ?_
      first | exact V.al (by rw [bB_t (Int.not_le.mp h85)]; rfl) (ih (k + 1) (by omega)) | exact V.al (by rw [bB_f (Int.not_lt.mpr h85)]; rfl) (ih (k + 1) (by omega)) | exact V.al (by rw [bB_t h85]; rfl) (ih (k + 1) (by omega)) | exact V.al (by rw [bB_f h85]; rfl) (ih (k + 1) (by omega))
theorem l_turns2 {x y z : Int} {M : Me} {n : Nat} (hn : M 430 7 = (n : Int)) (hn1 : 1 ≤ n) (hn6 : n ≤ 6) (hw : ∀ i : Int, 0 ≤ i → i < n → 1 ≤ M 430 (162 + i) ∧ M 430 (162 + i) ≤ 999) {t : Nat} (ht : t ≤ 99) : ∀ (m s : Nat), m + s = t → V kX11_layTurns 0 0 0 none (Ex none (Sf x y z) (row1 M 441 6 (tnS (fun i => M 430 (162 + i)) n t))) 23 [(1, 429), (0, (t : Int)), (0, (s : Int)), (9, 0), (9, 0)] [] (Sf x y z) (row1 M 441 6 (tnS (fun i => M 430 (162 + i)) n s)) 0 0 := by
  intro m
  induction m with
  | zero =>
    intro s hi
    obtain rfl : s = t := by omega
    refine r_iload_n dX11_layTurns_23 rfl ?_
    refine r_iload_n dX11_layTurns_24 rfl ?_
    refine r_icmp_ge (tgt := 113) dX11_layTurns_25 (by decide) (fun h25 => ?_) (fun h25 => by exfalso; omega)
    refine r_ret0 dX11_layTurns_113 rfl ?_
    exact ⟨rfl, rfl, rfl⟩
  | succ m ih =>
    intro s hi
    refine r_iload_n dX11_layTurns_23 rfl ?_
    refine r_iload_n dX11_layTurns_24 rfl ?_
    refine r_icmp_ge (tgt := 113) dX11_layTurns_25 (by decide) (fun h25 => by exfalso; omega) (fun h25 => ?_)
    refine r_iconst dX11_layTurns_28 (by decide) ?_
    refine r_istore_n dX11_layTurns_29 rfl (by decide) st3 ?_
    refine r_iconst dX11_layTurns_30 (by decide) ?_
    refine r_istore dX11_layTurns_31 rfl (by decide) st4 ?_
    refine l_turns3 hn hn1 hn6 hw ht (by omega) ?_ (n - 1) 0 (by omega)
    have h0 := bB_b (w := (fun i => M 430 (162 + i))) (T := (tnS (fun i => M 430 (162 + i)) n s)) (n - 1)
    have h1 := tnS_b (w := (fun i => M 430 (162 + i))) (n := n) (bB (fun i => M 430 (162 + i)) (tnS (fun i => M 430 (162 + i)) n s) (n - 1)) s
    refine r_aload_n dX11_layTurns_97 rfl (by decide) ?_
    refine r_getr (x := 441) dX11_layTurns_98 flX11_52 sf429 (by decide) (by decide) rfl rfl ?_
    refine r_iload_n dX11_layTurns_101 rfl ?_
    refine r_dup2 dX11_layTurns_102 (Nat.ne_of_beq_eq_false rfl) (Nat.ne_of_beq_eq_false rfl) ?_
    refine r_iald dX11_layTurns_103 sf441 (by decide) (by omega) (by omega) (by decide) (rd_rX (by omega) rfl) ?_
    refine r_iconst dX11_layTurns_104 (by decide) ?_
    refine r_iadd dX11_layTurns_105 (w32_id (by omega)) ?_
    refine r_iast dX11_layTurns_106 sf441 (by decide) (by omega) (by omega) (by decide) rfl ?_
    refine V.cm rfl (row1_up (by omega) (fun c _ _ => tnS_s c)) ?_
    refine r_iinc dX11_layTurns_107 rfl rfl (by decide) (w32_id (by omega)) st2 ?_
    refine r_goto (tgt := 23) dX11_layTurns_110 (by decide) ?_
    exact wk3 (ih (s + 1) (by omega))
theorem l_turns1 {x y z : Int} {M : Me} {n : Nat} (hn : M 430 7 = (n : Int)) (hn1 : 1 ≤ n) (hn6 : n ≤ 6) (hw : ∀ i : Int, 0 ≤ i → i < n → 1 ≤ M 430 (162 + i) ∧ M 430 (162 + i) ≤ 999) {t : Nat} (ht : t ≤ 99) : ∀ (m i : Nat), m + i = 6 → V kX11_layTurns 0 0 0 none (Ex none (Sf x y z) (row1 M 441 6 (tnS (fun i => M 430 (162 + i)) n t))) 2 [(1, 429), (0, (t : Int)), (0, (i : Int)), (9, 0), (9, 0)] [] (Sf x y z) (row1 M 441 6 (fun c => if c < (i : Int) then 0 else M 441 c)) 0 0 := by
  intro m
  induction m with
  | zero =>
    intro i hi
    obtain rfl : i = 6 := by omega
    refine r_iload_n dX11_layTurns_2 rfl ?_
    refine r_bipush dX11_layTurns_3 (by decide) (by decide) ?_
    refine r_icmp_ge (tgt := 21) dX11_layTurns_5 (by decide) (fun h5 => ?_) (fun h5 => by exfalso; omega)
    refine r_iconst dX11_layTurns_21 (by decide) ?_
    refine r_istore_n dX11_layTurns_22 rfl (by decide) st2 ?_
    exact V.cm rfl (row1_c (fun c _ _ => if_pos (by omega))) (l_turns2 hn hn1 hn6 hw ht t 0 (by omega))
  | succ m ih =>
    intro i hi
    refine r_iload_n dX11_layTurns_2 rfl ?_
    refine r_bipush dX11_layTurns_3 (by decide) (by decide) ?_
    refine r_icmp_ge (tgt := 21) dX11_layTurns_5 (by decide) (fun h5 => by exfalso; omega) (fun h5 => ?_)
    refine r_aload_n dX11_layTurns_8 rfl (by decide) ?_
    refine r_getr (x := 441) dX11_layTurns_9 flX11_52 sf429 (by decide) (by decide) rfl rfl ?_
    refine r_iload_n dX11_layTurns_12 rfl ?_
    refine r_iconst dX11_layTurns_13 (by decide) ?_
    refine r_iast dX11_layTurns_14 sf441 (by decide) (by omega) (by omega) (by decide) rfl ?_
    refine r_iinc dX11_layTurns_15 rfl rfl (by decide) (w32_id (by omega)) st2 ?_
    refine r_goto (tgt := 2) dX11_layTurns_18 (by decide) ?_
    exact V.cm rfl (row1_up (by omega) (fun c q1 q2 => lay_if (h := fun _ => 0) (g := fun c => M 441 c) rfl)) (ih (i + 1) (by omega))
theorem m_layTurns {x y z : Int} {M : Me} {n : Nat} (hn : M 430 7 = (n : Int)) (hn1 : 1 ≤ n) (hn6 : n ≤ 6) (hw : ∀ i : Int, 0 ≤ i → i < n → 1 ≤ M 430 (162 + i) ∧ M 430 (162 + i) ≤ 999) {t : Nat} (ht : t ≤ 99) : Con kX11_layTurns 0 0 0 [(1, 429), (0, (t : Int))] (Sf x y z) M (Ex none (Sf x y z) (row1 M 441 6 (tnS (fun i => M 430 (162 + i)) n t))) := by
  refine Con.ofV (al := [(1, 429), (0, (t : Int)), (9, 0), (9, 0), (9, 0)]) 3 (by decide) (Nat.le_of_ble_eq_true rfl) rfl ?_
  refine r_iconst dX11_layTurns_0 (by decide) ?_
  refine r_istore_n dX11_layTurns_1 rfl (by decide) st2 ?_
  refine V.cm rfl (row1_id.trans (row1_c (fun c q1 q2 => (if_neg (by omega)).symm))) (l_turns1 hn hn1 hn6 hw ht 6 0 (by omega))
