/-- a row laid anew -/
def row1 (M : Me) (r n : Int) (X : Int → Int) : Me := fun a j => if a = r ∧ 0 ≤ j ∧ j < n then X j else M a j
theorem row1_o {M : Me} {r n : Int} {X : Int → Int} {a j : Int} (h : ¬ (a = r ∧ 0 ≤ j ∧ j < n)) : row1 M r n X a j = M a j := by unfold row1; rw [if_neg h]
theorem rd_r0 {M : Me} {r n : Int} {X : Int → Int} {a j z : Int} (h : ¬ (a = r ∧ 0 ≤ j ∧ j < n)) (k : M a j = z) : row1 M r n X a j = z := (row1_o h).trans k
theorem rd_rX {M : Me} {r n : Int} {X : Int → Int} {a j z : Int} (h : a = r ∧ 0 ≤ j ∧ j < n) (k : X j = z) : row1 M r n X a j = z := by unfold row1; rw [if_pos h]; exact k
theorem row1_c {M : Me} {r n : Int} {X X' : Int → Int} (h : ∀ c, 0 ≤ c → c < n → X c = X' c) : row1 M r n X = row1 M r n X' := by
  funext a j
  unfold row1
  by_cases h1 : a = r ∧ 0 ≤ j ∧ j < n
  · rw [if_pos h1, if_pos h1, h j h1.2.1 h1.2.2]
  · rw [if_neg h1, if_neg h1]
theorem row1_id {M : Me} {r n : Int} : M = row1 M r n (fun c => M r c) := by
  funext a j
  unfold row1
  split
  · rename_i h; rw [h.1]
  · rfl
theorem row1_up {M : Me} {r n y v : Int} {X X' : Int → Int} (hy : 0 ≤ y ∧ y < n) (h : ∀ c, 0 ≤ c → c < n → X' c = if c = y then v else X c) : up (row1 M r n X) r y v = row1 M r n X' := by
  funext a j
  unfold up row1
  by_cases h1 : a = r ∧ j = y
  · rw [if_pos h1, if_pos (by omega), h j (by omega) (by omega), if_pos h1.2]
  · rw [if_neg h1]
    by_cases h2 : a = r ∧ 0 ≤ j ∧ j < n
    · rw [if_pos h2, if_pos h2, h j h2.2.1 h2.2.2, if_neg (fun q => h1 ⟨h2.1, q⟩)]
    · rw [if_neg h2, if_neg h2]
/-- whose turn it is (w: what each is worth, T: the turns so far); the turns behind s laughs -/
def bB (w T : Int → Int) : Nat → Int
  | 0 => 0
  | k + 1 => if w (bB w T k) * (T ((k : Int) + 1) + 1) < w ((k : Int) + 1) * (T (bB w T k) + 1) then (k : Int) + 1 else bB w T k
def tnS (w : Int → Int) (n : Nat) : Nat → Int → Int
  | 0, _ => 0
  | s + 1, c => if c = bB w (tnS w n s) (n - 1) then tnS w n s c + 1 else tnS w n s c
theorem bB_b {w T : Int → Int} : ∀ k : Nat, 0 ≤ bB w T k ∧ bB w T k ≤ k := by
  intro k
  induction k with
  | zero => exact (show 0 ≤ (0 : Int) ∧ (0 : Int) ≤ ((0 : Nat) : Int) by omega)
  | succ k ih => unfold bB; split <;> omega
theorem bB_t {w T : Int → Int} {k : Nat} (h : w (bB w T k) * (T ((k : Int) + 1) + 1) < w ((k : Int) + 1) * (T (bB w T k) + 1)) : bB w T (k + 1) = (k : Int) + 1 := if_pos h
theorem bB_f {w T : Int → Int} {k : Nat} (h : ¬ w (bB w T k) * (T ((k : Int) + 1) + 1) < w ((k : Int) + 1) * (T (bB w T k) + 1)) : bB w T (k + 1) = bB w T k := if_neg h
theorem tnS_b {w : Int → Int} {n : Nat} (c : Int) : ∀ s : Nat, 0 ≤ tnS w n s c ∧ tnS w n s c ≤ s := by
  intro s
  induction s with
  | zero => exact (show 0 ≤ (0 : Int) ∧ (0 : Int) ≤ ((0 : Nat) : Int) by omega)
  | succ s ih => unfold tnS; split <;> omega
theorem tnS_s {w : Int → Int} {n s : Nat} (c : Int) : tnS w n (s + 1) c = if c = bB w (tnS w n s) (n - 1) then tnS w n s (bB w (tnS w n s) (n - 1)) + 1 else tnS w n s c := by
  by_cases h : c = bB w (tnS w n s) (n - 1)
  · rw [if_pos h, ← h]; exact if_pos h
  · rw [if_neg h]; exact if_neg h
theorem mb2 {a b : Int} (ha : 0 ≤ a ∧ a ≤ 999) (hb : 0 ≤ b ∧ b ≤ 1000) : 0 ≤ a * b ∧ a * b ≤ 999000 := ⟨Int.mul_nonneg ha.1 hb.1, Int.le_trans (Int.mul_le_mul ha.2 hb.2 hb.1 (by decide)) (by decide)⟩
theorem mb3 {a b : Int} (ha : 0 ≤ a ∧ a ≤ 999) (hb : 0 ≤ b ∧ b ≤ 1000) : -2147483648 ≤ a * b ∧ a * b < 2147483648 := by have := mb2 ha hb; omega
theorem l_turns3 {x y z : Int} {M : Me} {n : Nat} (hn : M 430 7 = (n : Int)) (hn1 : 1 ≤ n) (hn6 : n ≤ 6) (hw : ∀ i : Int, 0 ≤ i → i < n → 1 ≤ M 430 (162 + i) ∧ M 430 (162 + i) ≤ 999) {t : Nat} (ht : t ≤ 99) {s : Nat} (hs : s < t) {Q : Option AV → Sh → Me → Prop} (hc : V kX11_layTurns 0 0 0 none Q 97 [(1, 429), (0, (t : Int)), (0, (s : Int)), (0, bB (fun i => M 430 (162 + i)) (tnS (fun i => M 430 (162 + i)) n s) (n - 1)), (9, 0)] [] (Sf x y z) (row1 M 441 6 (tnS (fun i => M 430 (162 + i)) n s)) 0 0) : ∀ (m k : Nat), m + k + 1 = n → V kX11_layTurns 0 0 0 none Q 33 [(1, 429), (0, (t : Int)), (0, (s : Int)), (0, bB (fun i => M 430 (162 + i)) (tnS (fun i => M 430 (162 + i)) n s) k), (0, (k : Int) + 1)] [] (Sf x y z) (row1 M 441 6 (tnS (fun i => M 430 (162 + i)) n s)) 0 0 := by
  intro m
  induction m with
  | zero =>
    intro k hi
    obtain rfl : k = n - 1 := by omega
    refine r_iload dX11_layTurns_33 rfl ?_
    refine r_aload_n dX11_layTurns_35 rfl (by decide) ?_
    refine r_getr (x := 430) dX11_layTurns_36 flX11_7 sf429 (by decide) (by decide) rfl rfl ?_
    refine r_bipush dX11_layTurns_39 (by decide) (by decide) ?_
    refine r_iald dX11_layTurns_41 sf430 (by decide) (by omega) (by omega) (by decide) ((row1_o (by omega)).trans hn) ?_
    refine r_icmp_ge (tgt := 97) dX11_layTurns_42 (by decide) (fun h42 => ?_) (fun h42 => by exfalso; omega)
    exact wk4 hc
  | succ m ih =>
    intro k hi
    have h0 := bB_b (w := (fun i => M 430 (162 + i))) (T := (tnS (fun i => M 430 (162 + i)) n s)) k
    have h1 := tnS_b (w := (fun i => M 430 (162 + i))) (n := n) (bB (fun i => M 430 (162 + i)) (tnS (fun i => M 430 (162 + i)) n s) k) s
    have h2 := tnS_b (w := (fun i => M 430 (162 + i))) (n := n) ((k : Int) + 1) s
    have h3 := hw ((k : Int) + 1) (by omega) (by omega)
    have h4 := hw (bB (fun i => M 430 (162 + i)) (tnS (fun i => M 430 (162 + i)) n s) k) (by omega) (by omega)
    refine r_iload dX11_layTurns_33 rfl ?_
    refine r_aload_n dX11_layTurns_35 rfl (by decide) ?_
    refine r_getr (x := 430) dX11_layTurns_36 flX11_7 sf429 (by decide) (by decide) rfl rfl ?_
    refine r_bipush dX11_layTurns_39 (by decide) (by decide) ?_
    refine r_iald dX11_layTurns_41 sf430 (by decide) (by omega) (by omega) (by decide) ((row1_o (by omega)).trans hn) ?_
    refine r_icmp_ge (tgt := 97) dX11_layTurns_42 (by decide) (fun h42 => by exfalso; omega) (fun h42 => ?_)
    refine r_aload_n dX11_layTurns_45 rfl (by decide) ?_
    refine r_getr (x := 430) dX11_layTurns_46 flX11_7 sf429 (by decide) (by decide) rfl rfl ?_
    refine r_sipush dX11_layTurns_49 (by decide) (by decide) ?_
    refine r_iload dX11_layTurns_52 rfl ?_
    refine r_iadd dX11_layTurns_54 (w32_id (by omega)) ?_
    refine r_iald dX11_layTurns_55 sf430 (by decide) (by omega) (by omega) (by decide) (row1_o (by omega)) ?_
    refine r_aload_n dX11_layTurns_56 rfl (by decide) ?_
    refine r_getr (x := 441) dX11_layTurns_57 flX11_52 sf429 (by decide) (by decide) rfl rfl ?_
    refine r_iload_n dX11_layTurns_60 rfl ?_
    refine r_iald dX11_layTurns_61 sf441 (by decide) (by omega) (by omega) (by decide) (rd_rX (by omega) rfl) ?_
    refine r_iconst dX11_layTurns_62 (by decide) ?_
    refine r_iadd dX11_layTurns_63 (w32_id (by omega)) ?_
    refine r_imul dX11_layTurns_64 (w32_id (mb3 (by omega) (by omega))) ?_
    refine r_aload_n dX11_layTurns_65 rfl (by decide) ?_
    refine r_getr (x := 430) dX11_layTurns_66 flX11_7 sf429 (by decide) (by decide) rfl rfl ?_
    refine r_sipush dX11_layTurns_69 (by decide) (by decide) ?_
    refine r_iload_n dX11_layTurns_72 rfl ?_
    refine r_iadd dX11_layTurns_73 (w32_id (by omega)) ?_
    refine r_iald dX11_layTurns_74 sf430 (by decide) (by omega) (by omega) (by decide) (row1_o (by omega)) ?_
    refine r_aload_n dX11_layTurns_75 rfl (by decide) ?_
    refine r_getr (x := 441) dX11_layTurns_76 flX11_52 sf429 (by decide) (by decide) rfl rfl ?_
    refine r_iload dX11_layTurns_79 rfl ?_
    refine r_iald dX11_layTurns_81 sf441 (by decide) (by omega) (by omega) (by decide) (rd_rX (by omega) rfl) ?_
    refine r_iconst dX11_layTurns_82 (by decide) ?_
    refine r_iadd dX11_layTurns_83 (w32_id (by omega)) ?_
    refine r_imul dX11_layTurns_84 (w32_id (mb3 (by omega) (by omega))) ?_
    refine r_icmp_le (tgt := 91) dX11_layTurns_85 (by decide) (fun h85 => ?_) (fun h85 => ?_)
    · refine r_iinc dX11_layTurns_91 rfl rfl (by decide) (w32_id (by omega)) st4 ?_
      refine r_goto (tgt := 33) dX11_layTurns_94 (by decide) ?_
      first | exact V.al (by rw [bB_t (Int.not_le.mp h85)]; rfl) (ih (k + 1) (by omega)) | exact V.al (by rw [bB_f (Int.not_lt.mpr h85)]; rfl) (ih (k + 1) (by omega)) | exact V.al (by rw [bB_t h85]; rfl) (ih (k + 1) (by omega)) | exact V.al (by rw [bB_f h85]; rfl) (ih (k + 1) (by omega))
    · refine r_iload dX11_layTurns_88 rfl ?_
      refine r_istore_n dX11_layTurns_90 rfl (by decide) st3 ?_
      refine r_iinc dX11_layTurns_91 rfl rfl (by decide) (w32_id (by omega)) st4 ?_
      refine r_goto (tgt := 33) dX11_layTurns_94 (by decide) ?_
      first | exact V.al (by rw [bB_t (Int.not_le.mp h85)]; rfl) (ih (k + 1) (by omega)) | exact V.al (by rw [bB_f (Int.not_lt.mpr h85)]; rfl) (ih (k + 1) (by omega)) | exact V.al (by rw [bB_t h85]; rfl) (ih (k + 1) (by omega)) | exact V.al (by rw [bB_f h85]; rfl) (ih (k + 1) (by omega))
theorem l_turns2 {x y z : Int} {M : Me} {n : Nat} (hn : M 430 7 = (n : Int)) (hn1 : 1 ≤ n) (hn6 : n ≤ 6) (hw : ∀ i : Int, 0 ≤ i → i < n → 1 ≤ M 430 (162 + i) ∧ M 430 (162 + i) ≤ 999) {t : Nat} (ht : t ≤ 99) : ∀ (m s : Nat), m + s = t → V kX11_layTurns 0 0 0 none (Ex none (Sf x y z) (row1 M 441 6 (tnS (fun i => M 430 (162 + i)) n t))) 23 [(1, 429), (0, (t : Int)), (0, (s : Int)), (9, 0), (9, 0)] [] (Sf x y z) (row1 M 441 6 (tnS (fun i => M 430 (162 + i)) n s)) 0 0 := by
  intro m
  induction m with
  | zero =>
    intro s hi
    obtain rfl : s = t := by omega
    refine r_iload_n dX11_layTurns_23 rfl ?_
    refine r_iload_n dX11_layTurns_24 rfl ?_
    refine r_icmp_ge (tgt := 113) dX11_layTurns_25 (by decide) (fun h25 => ?_) (fun h25 => by exfalso; omega)
    refine r_ret0 dX11_layTurns_113 rfl ?_
    exact ⟨rfl, rfl, rfl⟩
  | succ m ih =>
    intro s hi
    refine r_iload_n dX11_layTurns_23 rfl ?_
    refine r_iload_n dX11_layTurns_24 rfl ?_
    refine r_icmp_ge (tgt := 113) dX11_layTurns_25 (by decide) (fun h25 => by exfalso; omega) (fun h25 => ?_)
    refine r_iconst dX11_layTurns_28 (by decide) ?_
    refine r_istore_n dX11_layTurns_29 rfl (by decide) st3 ?_
    refine r_iconst dX11_layTurns_30 (by decide) ?_
    refine r_istore dX11_layTurns_31 rfl (by decide) st4 ?_
    refine l_turns3 hn hn1 hn6 hw ht (by omega) ?_ (n - 1) 0 (by omega)
    have h0 := bB_b (w := (fun i => M 430 (162 + i))) (T := (tnS (fun i => M 430 (162 + i)) n s)) (n - 1)
    have h1 := tnS_b (w := (fun i => M 430 (162 + i))) (n := n) (bB (fun i => M 430 (162 + i)) (tnS (fun i => M 430 (162 + i)) n s) (n - 1)) s
    refine r_aload_n dX11_layTurns_97 rfl (by decide) ?_
    refine r_getr (x := 441) dX11_layTurns_98 flX11_52 sf429 (by decide) (by decide) rfl rfl ?_
    refine r_iload_n dX11_layTurns_101 rfl ?_
    refine r_dup2 dX11_layTurns_102 (Nat.ne_of_beq_eq_false rfl) (Nat.ne_of_beq_eq_false rfl) ?_
    refine r_iald dX11_layTurns_103 sf441 (by decide) (by omega) (by omega) (by decide) (rd_rX (by omega) rfl) ?_
    refine r_iconst dX11_layTurns_104 (by decide) ?_
    refine r_iadd dX11_layTurns_105 (w32_id (by omega)) ?_
    refine r_iast dX11_layTurns_106 sf441 (by decide) (by omega) (by omega) (by decide) rfl ?_
    refine V.cm rfl (row1_up (by omega) (fun c _ _ => tnS_s c)) ?_
    refine r_iinc dX11_layTurns_107 rfl rfl (by decide) (w32_id (by omega)) st2 ?_
    refine r_goto (tgt := 23) dX11_layTurns_110 (by decide) ?_
    exact wk3 (ih (s + 1) (by omega))
theorem l_turns1 {x y z : Int} {M : Me} {n : Nat} (hn : M 430 7 = (n : Int)) (hn1 : 1 ≤ n) (hn6 : n ≤ 6) (hw : ∀ i : Int, 0 ≤ i → i < n → 1 ≤ M 430 (162 + i) ∧ M 430 (162 + i) ≤ 999) {t : Nat} (ht : t ≤ 99) : ∀ (m i : Nat), m + i = 6 → V kX11_layTurns 0 0 0 none (Ex none (Sf x y z) (row1 M 441 6 (tnS (fun i => M 430 (162 + i)) n t))) 2 [(1, 429), (0, (t : Int)), (0, (i : Int)), (9, 0), (9, 0)] [] (Sf x y z) (row1 M 441 6 (fun c => if c < (i : Int) then 0 else M 441 c)) 0 0 := by
  intro m
  induction m with
  | zero =>
    intro i hi
    obtain rfl : i = 6 := by omega
    refine r_iload_n dX11_layTurns_2 rfl ?_
    refine r_bipush dX11_layTurns_3 (by decide) (by decide) ?_
    refine r_icmp_ge (tgt := 21) dX11_layTurns_5 (by decide) (fun h5 => ?_) (fun h5 => by exfalso; omega)
    refine r_iconst dX11_layTurns_21 (by decide) ?_
    refine r_istore_n dX11_layTurns_22 rfl (by decide) st2 ?_
    exact V.cm rfl (row1_c (fun c _ _ => if_pos (by omega))) (l_turns2 hn hn1 hn6 hw ht t 0 (by omega))
  | succ m ih =>
    intro i hi
    refine r_iload_n dX11_layTurns_2 rfl ?_
    refine r_bipush dX11_layTurns_3 (by decide) (by decide) ?_
    refine r_icmp_ge (tgt := 21) dX11_layTurns_5 (by decide) (fun h5 => by exfalso; omega) (fun h5 => ?_)
    refine r_aload_n dX11_layTurns_8 rfl (by decide) ?_
    refine r_getr (x := 441) dX11_layTurns_9 flX11_52 sf429 (by decide) (by decide) rfl rfl ?_
    refine r_iload_n dX11_layTurns_12 rfl ?_
    refine r_iconst dX11_layTurns_13 (by decide) ?_
    refine r_iast dX11_layTurns_14 sf441 (by decide) (by omega) (by omega) (by decide) rfl ?_
    refine r_iinc dX11_layTurns_15 rfl rfl (by decide) (w32_id (by omega)) st2 ?_
    refine r_goto (tgt := 2) dX11_layTurns_18 (by decide) ?_
    exact V.cm rfl (row1_up (by omega) (fun c q1 q2 => lay_if (h := fun _ => 0) (g := fun c => M 441 c) rfl)) (ih (i + 1) (by omega))
theorem m_layTurns {x y z : Int} {M : Me} {n : Nat} (hn : M 430 7 = (n : Int)) (hn1 : 1 ≤ n) (hn6 : n ≤ 6) (hw : ∀ i : Int, 0 ≤ i → i < n → 1 ≤ M 430 (162 + i) ∧ M 430 (162 + i) ≤ 999) {t : Nat} (ht : t ≤ 99) : Con kX11_layTurns 0 0 0 [(1, 429), (0, (t : Int))] (Sf x y z) M (Ex none (Sf x y z) (row1 M 441 6 (tnS (fun i => M 430 (162 + i)) n t))) := by
  refine Con.ofV (al := [(1, 429), (0, (t : Int)), (9, 0), (9, 0), (9, 0)]) 3 (by decide) (Nat.le_of_ble_eq_true rfl) rfl ?_
  refine r_iconst dX11_layTurns_0 (by decide) ?_
  refine r_istore_n dX11_layTurns_1 rfl (by decide) st2 ?_
  refine V.cm rfl (row1_id.trans (row1_c (fun c q1 q2 => (if_neg (by omega)).symm))) (l_turns1 hn hn1 hn6 hw ht 6 0 (by omega))
def smW (w : Int → Int) : Nat → Int
  | 0 => 0
  | i + 1 => smW w i + w i
theorem smW_b {w : Int → Int} {n : Nat} (h : ∀ i : Int, 0 ≤ i → i < n → 1 ≤ w i ∧ w i ≤ 999) : ∀ i : Nat, i ≤ n → (i : Int) ≤ smW w i ∧ smW w i ≤ 999 * i := by
  intro i
  induction i with
  | zero => intro _; exact (show ((0 : Nat) : Int) ≤ 0 ∧ (0 : Int) ≤ 999 * ((0 : Nat) : Int) by omega)
  | succ i ih =>
    intro hi
    have h1 := ih (by omega)
    have h2 := h i (by omega) (by omega)
    unfold smW; omega
/-- what is left behind the whole parts of the first i -/
def lfW (w : Int → Int) (t g : Int) : Nat → Int
  | 0 => t
  | i + 1 => lfW w t g i - t * w i / g
theorem lfW_b {w : Int → Int} {t g : Int} {n : Nat} (h : ∀ i : Int, 0 ≤ i → i < n → 1 ≤ w i ∧ w i ≤ 999) (ht : 0 ≤ t ∧ t ≤ 99) (hg : 1 ≤ g) : ∀ i : Nat, i ≤ n → t - 98901 * i ≤ lfW w t g i ∧ lfW w t g i ≤ t := by
  intro i
  induction i with
  | zero => intro _; exact (show t - 98901 * ((0 : Nat) : Int) ≤ t ∧ t ≤ t by omega)
  | succ i ih =>
    intro hi
    have h1 := ih (by omega)
    have h2 := h i (by omega) (by omega)
    have h3 : 0 ≤ t * w i := Int.mul_nonneg ht.1 (by omega)
    have h4 : t * w i ≤ 99 * 999 := Int.mul_le_mul ht.2 h2.2 (by omega) (by decide)
    have h5 : t * w i / g ≤ t * w i := Int.ediv_le_self g h3
    have h6 : 0 ≤ t * w i / g := Int.ediv_nonneg h3 (by omega)
    unfold lfW; omega
/-- how many of the first j come before i by what is over -/
def ctW (r : Int → Int) (i : Int) : Nat → Int
  | 0 => 0
  | j + 1 => ctW r i j + (if r i < r j ∨ (r j = r i ∧ (j : Int) < i) then 1 else 0)
theorem ctW_t {r : Int → Int} {i : Int} {j : Nat} (h : r i < r j ∨ (r j = r i ∧ (j : Int) < i)) : ctW r i (j + 1) = ctW r i j + 1 := by
  show _ + (if _ then _ else _) = _
  rw [if_pos h]
theorem ctW_f {r : Int → Int} {i : Int} {j : Nat} (h : ¬ (r i < r j ∨ (r j = r i ∧ (j : Int) < i))) : ctW r i (j + 1) = ctW r i j + 0 := by
  show _ + (if _ then _ else _) = _
  rw [if_neg h]
theorem ctW_b {r : Int → Int} {i : Int} : ∀ j : Nat, 0 ≤ ctW r i j ∧ ctW r i j ≤ j := by
  intro j
  induction j with
  | zero => exact (show 0 ≤ (0 : Int) ∧ (0 : Int) ≤ ((0 : Nat) : Int) by omega)
  | succ j ih =>
    unfold ctW
    split <;> omega
def rmW (w : Int → Int) (t g : Int) (i : Int) : Int := t * w i % g
def zW (w : Int → Int) (t g : Int) (n : Nat) (i : Int) : Int := if ctW (rmW w t g) i n < lfW w t g n then 1 else 0
theorem zW_b {w : Int → Int} {t g : Int} {n : Nat} {i : Int} : 0 ≤ zW w t g n i ∧ zW w t g n i ≤ 1 := by unfold zW; split <;> decide
theorem wh_r {D Z O : Int → Int} {n i : Nat} (h : i < n) : (if (i : Int) < ((n : Nat) : Int) then D i + (if (i : Int) < (i : Int) then Z i else 0) else O i) = D i := by
  rw [if_pos (by omega), if_neg (by omega)]; omega
theorem wh_e {D Z O : Int → Int} {n i : Nat} (h : i < n) (c : Int) : (if c < ((n : Nat) : Int) then D c + (if c < ((i + 1 : Nat) : Int) then Z c else 0) else O c) = if c = (i : Int) then D i + Z i else (if c < ((n : Nat) : Int) then D c + (if c < (i : Int) then Z c else 0) else O c) := by
  by_cases e : c = (i : Int)
  · subst e; rw [if_pos rfl, if_pos (by omega), if_pos (by omega)]
  · rw [if_neg e]
    by_cases e2 : c < (i : Int)
    · rw [if_pos (show c < ((i + 1 : Nat) : Int) by omega), if_pos e2]
    · rw [if_neg (show ¬ c < ((i + 1 : Nat) : Int) by omega), if_neg e2]
def lwM (M : Me) (X Z : Int → Int) : Me := row1 (row1 M 441 6 X) 442 6 Z
theorem lwM_o {M : Me} {X Z : Int → Int} {a j : Int} (h : ¬ (a = 441 ∧ 0 ≤ j ∧ j < 6) ∧ ¬ (a = 442 ∧ 0 ≤ j ∧ j < 6)) : lwM M X Z a j = M a j := (row1_o h.2).trans (row1_o h.1)
theorem rd_lwX {M : Me} {X Z : Int → Int} {a j z : Int} (h : a = 441 ∧ 0 ≤ j ∧ j < 6) (k : X j = z) : lwM M X Z a j = z := rd_r0 (by omega) (rd_rX h k)
theorem rd_lwZ {M : Me} {X Z : Int → Int} {a j z : Int} (h : a = 442 ∧ 0 ≤ j ∧ j < 6) (k : Z j = z) : lwM M X Z a j = z := rd_rX h k
theorem lwM_c {M : Me} {X X' Z Z' : Int → Int} (h : ∀ c, 0 ≤ c → c < 6 → X c = X' c) (h' : ∀ c, 0 ≤ c → c < 6 → Z c = Z' c) : lwM M X Z = lwM M X' Z' := by
  unfold lwM
  rw [row1_c h, row1_c h']
theorem lwM_id {M : Me} : M = lwM M (fun c => M 441 c) (fun c => M 442 c) := by
  unfold lwM
  rw [← row1_id, ← row1_id]
theorem lwM_X {M : Me} {y v : Int} {X X' Z : Int → Int} (hy : 0 ≤ y ∧ y < 6) (h : ∀ c, 0 ≤ c → c < 6 → X' c = if c = y then v else X c) : up (lwM M X Z) 441 y v = lwM M X' Z := by
  funext a j
  by_cases h1 : a = 441 ∧ j = y
  · rw [up_eq h1]; exact (rd_lwX (by omega) (by rw [h j (by omega) (by omega), if_pos h1.2])).symm
  · rw [up_ne h1]
    by_cases h2 : a = 441 ∧ 0 ≤ j ∧ j < 6
    · exact (rd_lwX h2 rfl).trans (rd_lwX h2 (by rw [h j h2.2.1 h2.2.2, if_neg (fun q => h1 ⟨h2.1, q⟩)])).symm
    · by_cases h3 : a = 442 ∧ 0 ≤ j ∧ j < 6
      · exact (rd_lwZ h3 rfl).trans (rd_lwZ h3 rfl).symm
      · exact (lwM_o ⟨h2, h3⟩).trans (lwM_o ⟨h2, h3⟩).symm
theorem lwM_Z {M : Me} {y v : Int} {X Z Z' : Int → Int} (hy : 0 ≤ y ∧ y < 6) (h : ∀ c, 0 ≤ c → c < 6 → Z' c = if c = y then v else Z c) : up (lwM M X Z) 442 y v = lwM M X Z' := row1_up hy h
theorem l_whE {x y z : Int} {M : Me} {n : Nat} (hn : M 430 7 = (n : Int)) (hn1 : 1 ≤ n) (hn6 : n ≤ 6) (hw : ∀ i : Int, 0 ≤ i → i < n → 1 ≤ M 430 (162 + i) ∧ M 430 (162 + i) ≤ 999) {t : Nat} (ht : t ≤ 99) : ∀ (m i : Nat), m + i = n → V kX11_layWhole 0 0 0 none (Ex none (Sf x y z) (lwM M (fun c : Int => if c < ((n : Nat) : Int) then (t : Int) * M 430 (162 + c) / (smW (fun i => M 430 (162 + i)) n) + zW (fun i => M 430 (162 + i)) t (smW (fun i => M 430 (162 + i)) n) n c else M 441 c) (fun c : Int => if c < ((n : Nat) : Int) then zW (fun i => M 430 (162 + i)) t (smW (fun i => M 430 (162 + i)) n) n c else M 442 c))) 215 [(1, 429), (0, (t : Int)), (0, (smW (fun i => M 430 (162 + i)) n)), (0, (lfW (fun i => M 430 (162 + i)) t (smW (fun i => M 430 (162 + i)) n) n)), (0, (i : Int)), (9, 0), (9, 0), (9, 0)] [] (Sf x y z) (lwM M (fun c : Int => if c < ((n : Nat) : Int) then (t : Int) * M 430 (162 + c) / (smW (fun i => M 430 (162 + i)) n) + (if c < (i : Int) then zW (fun i => M 430 (162 + i)) t (smW (fun i => M 430 (162 + i)) n) n c else 0) else M 441 c) (fun c : Int => if c < ((n : Nat) : Int) then zW (fun i => M 430 (162 + i)) t (smW (fun i => M 430 (162 + i)) n) n c else M 442 c)) 0 0 := by
  intro m
  induction m with
  | zero =>
    intro i hi
    obtain rfl : i = n := by omega
    refine r_iload dX11_layWhole_215 rfl ?_
    refine r_aload_n dX11_layWhole_217 rfl (by decide) ?_
    refine r_getr (x := 430) dX11_layWhole_218 flX11_7 sf429 (by decide) (by decide) rfl rfl ?_
    refine r_bipush dX11_layWhole_221 (by decide) (by decide) ?_
    refine r_iald dX11_layWhole_223 sf430 (by decide) (by omega) (by omega) (by decide) ((lwM_o (by omega)).trans hn) ?_
    refine r_icmp_ge (tgt := 250) dX11_layWhole_224 (by decide) (fun h224 => ?_) (fun h224 => by exfalso; omega)
    refine r_ret0 dX11_layWhole_250 rfl ?_
    exact ⟨rfl, rfl, lwM_c (fun c q1 q2 => by by_cases h : c < (i : Int) <;> simp only [h, if_true, if_false]) (fun c q1 q2 => rfl)⟩
  | succ m ih =>
    intro i hi
    have g1 := smW_b (w := (fun i => M 430 (162 + i))) hw n (by omega)
    have g2 := hw (i : Int) (by omega) (by omega)
    have g3 := mb2 (a := M 430 (162 + (i : Int))) (b := (t : Int)) (by omega) (by omega)
    rw [Int.mul_comm] at g3
    have g4 : (t : Int) * M 430 (162 + (i : Int)) / (smW (fun i => M 430 (162 + i)) n) ≤ (t : Int) * M 430 (162 + (i : Int)) := Int.ediv_le_self _ g3.1
    have g5 : 0 ≤ (t : Int) * M 430 (162 + (i : Int)) / (smW (fun i => M 430 (162 + i)) n) := Int.ediv_nonneg g3.1 (by omega)
    have g6 : 0 ≤ (t : Int) * M 430 (162 + (i : Int)) % (smW (fun i => M 430 (162 + i)) n) := Int.emod_nonneg _ (by omega)
    have g7 : (t : Int) * M 430 (162 + (i : Int)) % (smW (fun i => M 430 (162 + i)) n) < (smW (fun i => M 430 (162 + i)) n) := Int.emod_lt_of_pos _ (by omega)
    have g8 := zW_b (w := (fun i => M 430 (162 + i))) (t := (t : Int)) (g := (smW (fun i => M 430 (162 + i)) n)) (n := n) (i := (i : Int))
    refine r_iload dX11_layWhole_215 rfl ?_
    refine r_aload_n dX11_layWhole_217 rfl (by decide) ?_
    refine r_getr (x := 430) dX11_layWhole_218 flX11_7 sf429 (by decide) (by decide) rfl rfl ?_
    refine r_bipush dX11_layWhole_221 (by decide) (by decide) ?_
    refine r_iald dX11_layWhole_223 sf430 (by decide) (by omega) (by omega) (by decide) ((lwM_o (by omega)).trans hn) ?_
    refine r_icmp_ge (tgt := 250) dX11_layWhole_224 (by decide) (fun h224 => by exfalso; omega) (fun h224 => ?_)
    refine r_aload_n dX11_layWhole_227 rfl (by decide) ?_
    refine r_getr (x := 441) dX11_layWhole_228 flX11_52 sf429 (by decide) (by decide) rfl rfl ?_
    refine r_iload dX11_layWhole_231 rfl ?_
    refine r_dup2 dX11_layWhole_233 (Nat.ne_of_beq_eq_false rfl) (Nat.ne_of_beq_eq_false rfl) ?_
    refine r_iald dX11_layWhole_234 sf441 (by decide) (by omega) (by omega) (by decide) (rd_lwX (by omega) (wh_r (D := fun c => (t : Int) * M 430 (162 + c) / (smW (fun i => M 430 (162 + i)) n)) (Z := fun c => zW (fun i => M 430 (162 + i)) t (smW (fun i => M 430 (162 + i)) n) n c) (O := fun c => M 441 c) (by omega))) ?_
    refine r_aload_n dX11_layWhole_235 rfl (by decide) ?_
    refine r_getr (x := 442) dX11_layWhole_236 flX11_55 sf429 (by decide) (by decide) rfl rfl ?_
    refine r_iload dX11_layWhole_239 rfl ?_
    refine r_iald dX11_layWhole_241 sf442 (by decide) (by omega) (by omega) (by decide) (rd_lwZ (by omega) (if_pos (by omega))) ?_
    refine r_iadd dX11_layWhole_242 (w32_id (by omega)) ?_
    refine r_iast dX11_layWhole_243 sf441 (by decide) (by omega) (by omega) (by decide) rfl ?_
    refine r_iinc dX11_layWhole_244 rfl rfl (by decide) (w32_id (by omega)) st4 ?_
    refine r_goto (tgt := 215) dX11_layWhole_247 (by decide) ?_
    exact V.cm rfl (lwM_X (by omega) (fun c q1 q2 => wh_e (D := fun c => (t : Int) * M 430 (162 + c) / (smW (fun i => M 430 (162 + i)) n)) (Z := fun c => zW (fun i => M 430 (162 + i)) t (smW (fun i => M 430 (162 + i)) n) n c) (O := fun c => M 441 c) (by omega) c)) (ih (i + 1) (by omega))
theorem l_whD {x y z : Int} {M : Me} {n : Nat} (hn : M 430 7 = (n : Int)) (hn1 : 1 ≤ n) (hn6 : n ≤ 6) (hw : ∀ i : Int, 0 ≤ i → i < n → 1 ≤ M 430 (162 + i) ∧ M 430 (162 + i) ≤ 999) {t : Nat} (ht : t ≤ 99) {i : Nat} (hin : i < n) {X Z : Int → Int} {Q : Option AV → Sh → Me → Prop} (hc : V kX11_layWhole 0 0 0 none Q 188 [(1, 429), (0, (t : Int)), (0, (smW (fun i => M 430 (162 + i)) n)), (0, (lfW (fun i => M 430 (162 + i)) t (smW (fun i => M 430 (162 + i)) n) n)), (0, (i : Int)), (0, ctW (rmW (fun i => M 430 (162 + i)) t (smW (fun i => M 430 (162 + i)) n)) i n), (9, 0), (9, 0)] [] (Sf x y z) (lwM M X Z) 0 0) : ∀ (m j : Nat), m + j = n → V kX11_layWhole 0 0 0 none Q 110 [(1, 429), (0, (t : Int)), (0, (smW (fun i => M 430 (162 + i)) n)), (0, (lfW (fun i => M 430 (162 + i)) t (smW (fun i => M 430 (162 + i)) n) n)), (0, (i : Int)), (0, ctW (rmW (fun i => M 430 (162 + i)) t (smW (fun i => M 430 (162 + i)) n)) i j), (0, (j : Int)), (9, 0)] [] (Sf x y z) (lwM M X Z) 0 0 := by
  intro m
  induction m with
  | zero =>
    intro j hi
    obtain rfl : j = n := by omega
    refine r_iload dX11_layWhole_110 rfl ?_
    refine r_aload_n dX11_layWhole_112 rfl (by decide) ?_
    refine r_getr (x := 430) dX11_layWhole_113 flX11_7 sf429 (by decide) (by decide) rfl rfl ?_
    refine r_bipush dX11_layWhole_116 (by decide) (by decide) ?_
    refine r_iald dX11_layWhole_118 sf430 (by decide) (by omega) (by omega) (by decide) ((lwM_o (by omega)).trans hn) ?_
    refine r_icmp_ge (tgt := 188) dX11_layWhole_119 (by decide) (fun h119 => ?_) (fun h119 => by exfalso; omega)
    exact wk6 hc
  | succ m ih =>
    intro j hj
    have g1 := smW_b (w := (fun i => M 430 (162 + i))) hw n (by omega)
    have g2 := hw (i : Int) (by omega) (by omega)
    have g3 := mb2 (a := M 430 (162 + (i : Int))) (b := (t : Int)) (by omega) (by omega)
    rw [Int.mul_comm] at g3
    have g4 : (t : Int) * M 430 (162 + (i : Int)) / (smW (fun i => M 430 (162 + i)) n) ≤ (t : Int) * M 430 (162 + (i : Int)) := Int.ediv_le_self _ g3.1
    have g5 : 0 ≤ (t : Int) * M 430 (162 + (i : Int)) / (smW (fun i => M 430 (162 + i)) n) := Int.ediv_nonneg g3.1 (by omega)
    have g6 : 0 ≤ (t : Int) * M 430 (162 + (i : Int)) % (smW (fun i => M 430 (162 + i)) n) := Int.emod_nonneg _ (by omega)
    have g7 : (t : Int) * M 430 (162 + (i : Int)) % (smW (fun i => M 430 (162 + i)) n) < (smW (fun i => M 430 (162 + i)) n) := Int.emod_lt_of_pos _ (by omega)
    have k3 := g3; have k6 : 0 ≤ (rmW (fun i => M 430 (162 + i)) t (smW (fun i => M 430 (162 + i)) n)) i := g6; have k7 : (rmW (fun i => M 430 (162 + i)) t (smW (fun i => M 430 (162 + i)) n)) i < (smW (fun i => M 430 (162 + i)) n) := g7; have k1 := g1; clear g1 g2 g3 g4 g5 g6 g7
    have g1 := smW_b (w := (fun i => M 430 (162 + i))) hw n (by omega)
    have g2 := hw (j : Int) (by omega) (by omega)
    have g3 := mb2 (a := M 430 (162 + (j : Int))) (b := (t : Int)) (by omega) (by omega)
    rw [Int.mul_comm] at g3
    have g4 : (t : Int) * M 430 (162 + (j : Int)) / (smW (fun i => M 430 (162 + i)) n) ≤ (t : Int) * M 430 (162 + (j : Int)) := Int.ediv_le_self _ g3.1
    have g5 : 0 ≤ (t : Int) * M 430 (162 + (j : Int)) / (smW (fun i => M 430 (162 + i)) n) := Int.ediv_nonneg g3.1 (by omega)
    have g6 : 0 ≤ (t : Int) * M 430 (162 + (j : Int)) % (smW (fun i => M 430 (162 + i)) n) := Int.emod_nonneg _ (by omega)
    have g7 : (t : Int) * M 430 (162 + (j : Int)) % (smW (fun i => M 430 (162 + i)) n) < (smW (fun i => M 430 (162 + i)) n) := Int.emod_lt_of_pos _ (by omega)
    have g6 : 0 ≤ (rmW (fun i => M 430 (162 + i)) t (smW (fun i => M 430 (162 + i)) n)) j := g6; have g7 : (rmW (fun i => M 430 (162 + i)) t (smW (fun i => M 430 (162 + i)) n)) j < (smW (fun i => M 430 (162 + i)) n) := g7
    have g8 := ctW_b (r := (rmW (fun i => M 430 (162 + i)) t (smW (fun i => M 430 (162 + i)) n))) (i := (i : Int)) j
    refine r_iload dX11_layWhole_110 rfl ?_
    refine r_aload_n dX11_layWhole_112 rfl (by decide) ?_
    refine r_getr (x := 430) dX11_layWhole_113 flX11_7 sf429 (by decide) (by decide) rfl rfl ?_
    refine r_bipush dX11_layWhole_116 (by decide) (by decide) ?_
    refine r_iald dX11_layWhole_118 sf430 (by decide) (by omega) (by omega) (by decide) ((lwM_o (by omega)).trans hn) ?_
    refine r_icmp_ge (tgt := 188) dX11_layWhole_119 (by decide) (fun h119 => by exfalso; omega) (fun h119 => ?_)
    refine r_iload_n dX11_layWhole_122 rfl ?_
    refine r_aload_n dX11_layWhole_123 rfl (by decide) ?_
    refine r_getr (x := 430) dX11_layWhole_124 flX11_7 sf429 (by decide) (by decide) rfl rfl ?_
    refine r_sipush dX11_layWhole_127 (by decide) (by decide) ?_
    refine r_iload dX11_layWhole_130 rfl ?_
    refine r_iadd dX11_layWhole_132 (w32_id (by omega)) ?_
    refine r_iald dX11_layWhole_133 sf430 (by decide) (by omega) (by omega) (by decide) (lwM_o (by omega)) ?_
    refine r_imul dX11_layWhole_134 (w32_id (by omega)) ?_
    refine r_iload_n dX11_layWhole_135 rfl ?_
    refine r_irem dX11_layWhole_136 (by omega) (show _ = (rmW (fun i => M 430 (162 + i)) t (smW (fun i => M 430 (162 + i)) n)) j from rmn (by omega)) ?_
    refine r_iload_n dX11_layWhole_137 rfl ?_
    refine r_aload_n dX11_layWhole_138 rfl (by decide) ?_
    refine r_getr (x := 430) dX11_layWhole_139 flX11_7 sf429 (by decide) (by decide) rfl rfl ?_
    refine r_sipush dX11_layWhole_142 (by decide) (by decide) ?_
    refine r_iload dX11_layWhole_145 rfl ?_
    refine r_iadd dX11_layWhole_147 (w32_id (by omega)) ?_
    refine r_iald dX11_layWhole_148 sf430 (by decide) (by omega) (by omega) (by decide) (lwM_o (by omega)) ?_
    refine r_imul dX11_layWhole_149 (w32_id (by omega)) ?_
    refine r_iload_n dX11_layWhole_150 rfl ?_
    refine r_irem dX11_layWhole_151 (by omega) (show _ = (rmW (fun i => M 430 (162 + i)) t (smW (fun i => M 430 (162 + i)) n)) i from rmn (by omega)) ?_
    refine r_isub dX11_layWhole_152 (w32_id (by omega)) ?_
    refine r_istore dX11_layWhole_153 rfl (by decide) st7 ?_
    refine r_iload dX11_layWhole_155 rfl ?_
    refine r_iload dX11_layWhole_157 rfl ?_
    refine r_if_gt (tgt := 174) dX11_layWhole_159 (by decide) (fun h159 => ?_) (fun h159 => ?_)
    · refine r_iconst dX11_layWhole_174 (by decide) ?_
      refine r_goto (tgt := 179) dX11_layWhole_175 (by decide) ?_
      refine r_iadd dX11_layWhole_179 (w32_id (by omega)) ?_
      refine r_istore dX11_layWhole_180 rfl (by decide) st5 ?_
      refine r_iinc dX11_layWhole_182 rfl rfl (by decide) (w32_id (by omega)) st6 ?_
      refine r_goto (tgt := 110) dX11_layWhole_185 (by decide) ?_
      refine wk7 ?_
      first | exact V.al (by rw [ctW_t (Or.inl (by omega))]; rfl) (ih (j + 1) (by omega)) | exact V.al (by rw [ctW_t (Or.inr ⟨by omega, by omega⟩)]; rfl) (ih (j + 1) (by omega)) | exact V.al (by rw [ctW_f (by omega)]; rfl) (ih (j + 1) (by omega))
    · refine r_iload dX11_layWhole_162 rfl ?_
      refine r_if_ne (tgt := 178) dX11_layWhole_164 (by decide) (fun h164 => ?_) (fun h164 => ?_)
      · try have h164 := bi_1.mp h164
        refine r_iconst dX11_layWhole_178 (by decide) ?_
        refine r_iadd dX11_layWhole_179 (w32_id (by omega)) ?_
        refine r_istore dX11_layWhole_180 rfl (by decide) st5 ?_
        refine r_iinc dX11_layWhole_182 rfl rfl (by decide) (w32_id (by omega)) st6 ?_
        refine r_goto (tgt := 110) dX11_layWhole_185 (by decide) ?_
        refine wk7 ?_
        first | exact V.al (by rw [ctW_t (Or.inl (by omega))]; rfl) (ih (j + 1) (by omega)) | exact V.al (by rw [ctW_t (Or.inr ⟨by omega, by omega⟩)]; rfl) (ih (j + 1) (by omega)) | exact V.al (by rw [ctW_f (by omega)]; rfl) (ih (j + 1) (by omega))
      · try have h164 := bi_0.mp h164
        refine r_iload dX11_layWhole_167 rfl ?_
        refine r_iload dX11_layWhole_169 rfl ?_
        refine r_icmp_ge (tgt := 178) dX11_layWhole_171 (by decide) (fun h171 => ?_) (fun h171 => ?_)
        · refine r_iconst dX11_layWhole_178 (by decide) ?_
          refine r_iadd dX11_layWhole_179 (w32_id (by omega)) ?_
          refine r_istore dX11_layWhole_180 rfl (by decide) st5 ?_
          refine r_iinc dX11_layWhole_182 rfl rfl (by decide) (w32_id (by omega)) st6 ?_
          refine r_goto (tgt := 110) dX11_layWhole_185 (by decide) ?_
          refine wk7 ?_
          first | exact V.al (by rw [ctW_t (Or.inl (by omega))]; rfl) (ih (j + 1) (by omega)) | exact V.al (by rw [ctW_t (Or.inr ⟨by omega, by omega⟩)]; rfl) (ih (j + 1) (by omega)) | exact V.al (by rw [ctW_f (by omega)]; rfl) (ih (j + 1) (by omega))
        · refine r_iconst dX11_layWhole_174 (by decide) ?_
          refine r_goto (tgt := 179) dX11_layWhole_175 (by decide) ?_
          refine r_iadd dX11_layWhole_179 (w32_id (by omega)) ?_
          refine r_istore dX11_layWhole_180 rfl (by decide) st5 ?_
          refine r_iinc dX11_layWhole_182 rfl rfl (by decide) (w32_id (by omega)) st6 ?_
          refine r_goto (tgt := 110) dX11_layWhole_185 (by decide) ?_
          refine wk7 ?_
          first | exact V.al (by rw [ctW_t (Or.inl (by omega))]; rfl) (ih (j + 1) (by omega)) | exact V.al (by rw [ctW_t (Or.inr ⟨by omega, by omega⟩)]; rfl) (ih (j + 1) (by omega)) | exact V.al (by rw [ctW_f (by omega)]; rfl) (ih (j + 1) (by omega))
theorem l_whC {x y z : Int} {M : Me} {n : Nat} (hn : M 430 7 = (n : Int)) (hn1 : 1 ≤ n) (hn6 : n ≤ 6) (hw : ∀ i : Int, 0 ≤ i → i < n → 1 ≤ M 430 (162 + i) ∧ M 430 (162 + i) ≤ 999) {t : Nat} (ht : t ≤ 99) : ∀ (m i : Nat), m + i = n → V kX11_layWhole 0 0 0 none (Ex none (Sf x y z) (lwM M (fun c : Int => if c < ((n : Nat) : Int) then (t : Int) * M 430 (162 + c) / (smW (fun i => M 430 (162 + i)) n) + zW (fun i => M 430 (162 + i)) t (smW (fun i => M 430 (162 + i)) n) n c else M 441 c) (fun c : Int => if c < ((n : Nat) : Int) then zW (fun i => M 430 (162 + i)) t (smW (fun i => M 430 (162 + i)) n) n c else M 442 c))) 92 [(1, 429), (0, (t : Int)), (0, (smW (fun i => M 430 (162 + i)) n)), (0, (lfW (fun i => M 430 (162 + i)) t (smW (fun i => M 430 (162 + i)) n) n)), (0, (i : Int)), (9, 0), (9, 0), (9, 0)] [] (Sf x y z) (lwM M (fun c : Int => if c < ((n : Nat) : Int) then (t : Int) * M 430 (162 + c) / (smW (fun i => M 430 (162 + i)) n) else M 441 c) (fun c : Int => if c < ((i : Nat) : Int) then zW (fun i => M 430 (162 + i)) t (smW (fun i => M 430 (162 + i)) n) n c else M 442 c)) 0 0 := by
  intro m
  induction m with
  | zero =>
    intro i hi
    obtain rfl : i = n := by omega
    refine r_iload dX11_layWhole_92 rfl ?_
    refine r_aload_n dX11_layWhole_94 rfl (by decide) ?_
    refine r_getr (x := 430) dX11_layWhole_95 flX11_7 sf429 (by decide) (by decide) rfl rfl ?_
    refine r_bipush dX11_layWhole_98 (by decide) (by decide) ?_
    refine r_iald dX11_layWhole_100 sf430 (by decide) (by omega) (by omega) (by decide) ((lwM_o (by omega)).trans hn) ?_
    refine r_icmp_ge (tgt := 212) dX11_layWhole_101 (by decide) (fun h101 => ?_) (fun h101 => by exfalso; omega)
    refine r_iconst dX11_layWhole_212 (by decide) ?_
    refine r_istore dX11_layWhole_213 rfl (by decide) st4 ?_
    exact V.cm rfl (lwM_c (fun c q1 q2 => by by_cases h : c < (i : Int) <;> simp only [h, if_true, if_false]; rw [if_neg (by omega)]; omega) (fun c q1 q2 => rfl)) (l_whE hn hn1 hn6 hw ht i 0 (by omega))
  | succ m ih =>
    intro i hi
    refine r_iload dX11_layWhole_92 rfl ?_
    refine r_aload_n dX11_layWhole_94 rfl (by decide) ?_
    refine r_getr (x := 430) dX11_layWhole_95 flX11_7 sf429 (by decide) (by decide) rfl rfl ?_
    refine r_bipush dX11_layWhole_98 (by decide) (by decide) ?_
    refine r_iald dX11_layWhole_100 sf430 (by decide) (by omega) (by omega) (by decide) ((lwM_o (by omega)).trans hn) ?_
    refine r_icmp_ge (tgt := 212) dX11_layWhole_101 (by decide) (fun h101 => by exfalso; omega) (fun h101 => ?_)
    refine r_iconst dX11_layWhole_104 (by decide) ?_
    refine r_istore dX11_layWhole_105 rfl (by decide) st5 ?_
    refine r_iconst dX11_layWhole_107 (by decide) ?_
    refine r_istore dX11_layWhole_108 rfl (by decide) st6 ?_
    refine l_whD hn hn1 hn6 hw ht (by omega) ?_ n 0 (by omega)
    refine r_aload_n dX11_layWhole_188 rfl (by decide) ?_
    refine r_getr (x := 442) dX11_layWhole_189 flX11_55 sf429 (by decide) (by decide) rfl rfl ?_
    refine r_iload dX11_layWhole_192 rfl ?_
    refine r_iload dX11_layWhole_194 rfl ?_
    refine r_iload_n dX11_layWhole_196 rfl ?_
    refine r_icmp_ge (tgt := 204) dX11_layWhole_197 (by decide) (fun h197 => ?_) (fun h197 => ?_)
    · refine r_iconst dX11_layWhole_204 (by decide) ?_
      refine r_iast dX11_layWhole_205 sf442 (by decide) (by omega) (by omega) (by decide) rfl ?_
      refine r_iinc dX11_layWhole_206 rfl rfl (by decide) (w32_id (by omega)) st4 ?_
      refine r_goto (tgt := 92) dX11_layWhole_209 (by decide) ?_
      refine wk5 ?_
      exact V.cm rfl (lwM_Z (by omega) (fun c q1 q2 => lay_if (h := fun c => zW (fun i => M 430 (162 + i)) t (smW (fun i => M 430 (162 + i)) n) n c) (g := fun c => M 442 c) (by first | exact if_pos (by assumption) | exact if_neg (by omega)))) (ih (i + 1) (by omega))
    · refine r_iconst dX11_layWhole_200 (by decide) ?_
      refine r_goto (tgt := 205) dX11_layWhole_201 (by decide) ?_
      refine r_iast dX11_layWhole_205 sf442 (by decide) (by omega) (by omega) (by decide) rfl ?_
      refine r_iinc dX11_layWhole_206 rfl rfl (by decide) (w32_id (by omega)) st4 ?_
      refine r_goto (tgt := 92) dX11_layWhole_209 (by decide) ?_
      refine wk5 ?_
      exact V.cm rfl (lwM_Z (by omega) (fun c q1 q2 => lay_if (h := fun c => zW (fun i => M 430 (162 + i)) t (smW (fun i => M 430 (162 + i)) n) n c) (g := fun c => M 442 c) (by first | exact if_pos (by assumption) | exact if_neg (by omega)))) (ih (i + 1) (by omega))
theorem l_whB {x y z : Int} {M : Me} {n : Nat} (hn : M 430 7 = (n : Int)) (hn1 : 1 ≤ n) (hn6 : n ≤ 6) (hw : ∀ i : Int, 0 ≤ i → i < n → 1 ≤ M 430 (162 + i) ∧ M 430 (162 + i) ≤ 999) {t : Nat} (ht : t ≤ 99) : ∀ (m i : Nat), m + i = n → V kX11_layWhole 0 0 0 none (Ex none (Sf x y z) (lwM M (fun c : Int => if c < ((n : Nat) : Int) then (t : Int) * M 430 (162 + c) / (smW (fun i => M 430 (162 + i)) n) + zW (fun i => M 430 (162 + i)) t (smW (fun i => M 430 (162 + i)) n) n c else M 441 c) (fun c : Int => if c < ((n : Nat) : Int) then zW (fun i => M 430 (162 + i)) t (smW (fun i => M 430 (162 + i)) n) n c else M 442 c))) 39 [(1, 429), (0, (t : Int)), (0, (smW (fun i => M 430 (162 + i)) n)), (0, lfW (fun i => M 430 (162 + i)) t (smW (fun i => M 430 (162 + i)) n) i), (0, (i : Int)), (9, 0), (9, 0), (9, 0)] [] (Sf x y z) (lwM M (fun c : Int => if c < ((i : Nat) : Int) then (t : Int) * M 430 (162 + c) / (smW (fun i => M 430 (162 + i)) n) else M 441 c) (fun c => M 442 c)) 0 0 := by
  intro m
  induction m with
  | zero =>
    intro i hi
    obtain rfl : i = n := by omega
    refine r_iload dX11_layWhole_39 rfl ?_
    refine r_aload_n dX11_layWhole_41 rfl (by decide) ?_
    refine r_getr (x := 430) dX11_layWhole_42 flX11_7 sf429 (by decide) (by decide) rfl rfl ?_
    refine r_bipush dX11_layWhole_45 (by decide) (by decide) ?_
    refine r_iald dX11_layWhole_47 sf430 (by decide) (by omega) (by omega) (by decide) ((lwM_o (by omega)).trans hn) ?_
    refine r_icmp_ge (tgt := 89) dX11_layWhole_48 (by decide) (fun h48 => ?_) (fun h48 => by exfalso; omega)
    refine r_iconst dX11_layWhole_89 (by decide) ?_
    refine r_istore dX11_layWhole_90 rfl (by decide) st4 ?_
    exact V.cm rfl (lwM_c (fun c q1 q2 => rfl) (fun c q1 q2 => (if_neg (by omega)).symm)) (l_whC hn hn1 hn6 hw ht i 0 (by omega))
  | succ m ih =>
    intro i hi
    have g1 := smW_b (w := (fun i => M 430 (162 + i))) hw n (by omega)
    have g2 := hw (i : Int) (by omega) (by omega)
    have g3 := mb2 (a := M 430 (162 + (i : Int))) (b := (t : Int)) (by omega) (by omega)
    rw [Int.mul_comm] at g3
    have g4 : (t : Int) * M 430 (162 + (i : Int)) / (smW (fun i => M 430 (162 + i)) n) ≤ (t : Int) * M 430 (162 + (i : Int)) := Int.ediv_le_self _ g3.1
    have g5 : 0 ≤ (t : Int) * M 430 (162 + (i : Int)) / (smW (fun i => M 430 (162 + i)) n) := Int.ediv_nonneg g3.1 (by omega)
    have g6 : 0 ≤ (t : Int) * M 430 (162 + (i : Int)) % (smW (fun i => M 430 (162 + i)) n) := Int.emod_nonneg _ (by omega)
    have g7 : (t : Int) * M 430 (162 + (i : Int)) % (smW (fun i => M 430 (162 + i)) n) < (smW (fun i => M 430 (162 + i)) n) := Int.emod_lt_of_pos _ (by omega)
    have g8 := lfW_b (w := (fun i => M 430 (162 + i))) (t := (t : Int)) (g := (smW (fun i => M 430 (162 + i)) n)) hw (by omega) (by omega) i (by omega)
    refine r_iload dX11_layWhole_39 rfl ?_
    refine r_aload_n dX11_layWhole_41 rfl (by decide) ?_
    refine r_getr (x := 430) dX11_layWhole_42 flX11_7 sf429 (by decide) (by decide) rfl rfl ?_
    refine r_bipush dX11_layWhole_45 (by decide) (by decide) ?_
    refine r_iald dX11_layWhole_47 sf430 (by decide) (by omega) (by omega) (by decide) ((lwM_o (by omega)).trans hn) ?_
    refine r_icmp_ge (tgt := 89) dX11_layWhole_48 (by decide) (fun h48 => by exfalso; omega) (fun h48 => ?_)
    refine r_aload_n dX11_layWhole_51 rfl (by decide) ?_
    refine r_getr (x := 441) dX11_layWhole_52 flX11_52 sf429 (by decide) (by decide) rfl rfl ?_
    refine r_iload dX11_layWhole_55 rfl ?_
    refine r_iload_n dX11_layWhole_57 rfl ?_
    refine r_aload_n dX11_layWhole_58 rfl (by decide) ?_
    refine r_getr (x := 430) dX11_layWhole_59 flX11_7 sf429 (by decide) (by decide) rfl rfl ?_
    refine r_sipush dX11_layWhole_62 (by decide) (by decide) ?_
    refine r_iload dX11_layWhole_65 rfl ?_
    refine r_iadd dX11_layWhole_67 (w32_id (by omega)) ?_
    refine r_iald dX11_layWhole_68 sf430 (by decide) (by omega) (by omega) (by decide) (lwM_o (by omega)) ?_
    refine r_imul dX11_layWhole_69 (w32_id (by omega)) ?_
    refine r_iload_n dX11_layWhole_70 rfl ?_
    refine r_idiv dX11_layWhole_71 (by omega) (dvn (by omega) (by omega) (by omega)) ?_
    refine r_iast dX11_layWhole_72 sf441 (by decide) (by omega) (by omega) (by decide) rfl ?_
    refine V.cm rfl (lwM_X (by omega) (fun c q1 q2 => lay_if (h := fun c => (t : Int) * M 430 (162 + c) / (smW (fun i => M 430 (162 + i)) n)) (g := fun c => M 441 c) rfl)) ?_
    refine r_iload_n dX11_layWhole_73 rfl ?_
    refine r_aload_n dX11_layWhole_74 rfl (by decide) ?_
    refine r_getr (x := 441) dX11_layWhole_75 flX11_52 sf429 (by decide) (by decide) rfl rfl ?_
    refine r_iload dX11_layWhole_78 rfl ?_
    refine r_iald dX11_layWhole_80 sf441 (by decide) (by omega) (by omega) (by decide) (rd_lwX (by omega) (if_pos (by omega))) ?_
    refine r_isub dX11_layWhole_81 (w32_id (by omega)) ?_
    refine r_istore_n dX11_layWhole_82 rfl (by decide) st3 ?_
    refine r_iinc dX11_layWhole_83 rfl rfl (by decide) (w32_id (by omega)) st4 ?_
    refine r_goto (tgt := 39) dX11_layWhole_86 (by decide) ?_
    exact (ih (i + 1) (by omega))
theorem l_whA {x y z : Int} {M : Me} {n : Nat} (hn : M 430 7 = (n : Int)) (hn1 : 1 ≤ n) (hn6 : n ≤ 6) (hw : ∀ i : Int, 0 ≤ i → i < n → 1 ≤ M 430 (162 + i) ∧ M 430 (162 + i) ≤ 999) {t : Nat} (ht : t ≤ 99) : ∀ (m i : Nat), m + i = n → V kX11_layWhole 0 0 0 none (Ex none (Sf x y z) (lwM M (fun c : Int => if c < ((n : Nat) : Int) then (t : Int) * M 430 (162 + c) / (smW (fun i => M 430 (162 + i)) n) + zW (fun i => M 430 (162 + i)) t (smW (fun i => M 430 (162 + i)) n) n c else M 441 c) (fun c : Int => if c < ((n : Nat) : Int) then zW (fun i => M 430 (162 + i)) t (smW (fun i => M 430 (162 + i)) n) n c else M 442 c))) 4 [(1, 429), (0, (t : Int)), (0, smW (fun i => M 430 (162 + i)) i), (0, (i : Int)), (9, 0), (9, 0), (9, 0), (9, 0)] [] (Sf x y z) M 0 0 := by
  intro m
  induction m with
  | zero =>
    intro i hi
    obtain rfl : i = n := by omega
    refine r_iload_n dX11_layWhole_4 rfl ?_
    refine r_aload_n dX11_layWhole_5 rfl (by decide) ?_
    refine r_getr (x := 430) dX11_layWhole_6 flX11_7 sf429 (by decide) (by decide) rfl rfl ?_
    refine r_bipush dX11_layWhole_9 (by decide) (by decide) ?_
    refine r_iald dX11_layWhole_11 sf430 (by decide) (by omega) (by omega) (by decide) hn ?_
    refine r_icmp_ge (tgt := 34) dX11_layWhole_12 (by decide) (fun h12 => ?_) (fun h12 => by exfalso; omega)
    refine r_iload_n dX11_layWhole_34 rfl ?_
    refine r_istore_n dX11_layWhole_35 rfl (by decide) st3 ?_
    refine r_iconst dX11_layWhole_36 (by decide) ?_
    refine r_istore dX11_layWhole_37 rfl (by decide) st4 ?_
    exact V.cm rfl (lwM_id.trans (lwM_c (fun c q1 q2 => (if_neg (by omega)).symm) (fun c q1 q2 => rfl))) (l_whB hn hn1 hn6 hw ht i 0 (by omega))
  | succ m ih =>
    intro i hi
    have g1 := smW_b (w := (fun i => M 430 (162 + i))) hw i (by omega)
    have g2 := hw (i : Int) (by omega) (by omega)
    refine r_iload_n dX11_layWhole_4 rfl ?_
    refine r_aload_n dX11_layWhole_5 rfl (by decide) ?_
    refine r_getr (x := 430) dX11_layWhole_6 flX11_7 sf429 (by decide) (by decide) rfl rfl ?_
    refine r_bipush dX11_layWhole_9 (by decide) (by decide) ?_
    refine r_iald dX11_layWhole_11 sf430 (by decide) (by omega) (by omega) (by decide) hn ?_
    refine r_icmp_ge (tgt := 34) dX11_layWhole_12 (by decide) (fun h12 => by exfalso; omega) (fun h12 => ?_)
    refine r_iload_n dX11_layWhole_15 rfl ?_
    refine r_aload_n dX11_layWhole_16 rfl (by decide) ?_
    refine r_getr (x := 430) dX11_layWhole_17 flX11_7 sf429 (by decide) (by decide) rfl rfl ?_
    refine r_sipush dX11_layWhole_20 (by decide) (by decide) ?_
    refine r_iload_n dX11_layWhole_23 rfl ?_
    refine r_iadd dX11_layWhole_24 (w32_id (by omega)) ?_
    refine r_iald dX11_layWhole_25 sf430 (by decide) (by omega) (by omega) (by decide) (by first | assumption | ((repeat (first | (apply rd_ne; · omega) | (apply rd_eq; · omega) | (apply rd_out; · omega) | (apply rd_in; · omega))); first | assumption | rfl)) ?_
    refine r_iadd dX11_layWhole_26 (w32_id (by omega)) ?_
    refine r_istore_n dX11_layWhole_27 rfl (by decide) st2 ?_
    refine r_iinc dX11_layWhole_28 rfl rfl (by decide) (w32_id (by omega)) st3 ?_
    refine r_goto (tgt := 4) dX11_layWhole_31 (by decide) ?_
    exact (ih (i + 1) (by omega))
theorem m_layWhole {x y z : Int} {M : Me} {n : Nat} (hn : M 430 7 = (n : Int)) (hn1 : 1 ≤ n) (hn6 : n ≤ 6) (hw : ∀ i : Int, 0 ≤ i → i < n → 1 ≤ M 430 (162 + i) ∧ M 430 (162 + i) ≤ 999) {t : Nat} (ht : t ≤ 99) : Con kX11_layWhole 0 0 0 [(1, 429), (0, (t : Int))] (Sf x y z) M (Ex none (Sf x y z) (lwM M (fun c : Int => if c < ((n : Nat) : Int) then (t : Int) * M 430 (162 + c) / (smW (fun i => M 430 (162 + i)) n) + zW (fun i => M 430 (162 + i)) t (smW (fun i => M 430 (162 + i)) n) n c else M 441 c) (fun c : Int => if c < ((n : Nat) : Int) then zW (fun i => M 430 (162 + i)) t (smW (fun i => M 430 (162 + i)) n) n c else M 442 c))) := by
  refine Con.ofV (al := [(1, 429), (0, (t : Int)), (9, 0), (9, 0), (9, 0), (9, 0), (9, 0), (9, 0)]) 6 (by decide) (Nat.le_of_ble_eq_true rfl) rfl ?_
  refine r_iconst dX11_layWhole_0 (by decide) ?_
  refine r_istore_n dX11_layWhole_1 rfl (by decide) st2 ?_
  refine r_iconst dX11_layWhole_2 (by decide) ?_
  refine r_istore_n dX11_layWhole_3 rfl (by decide) st3 ?_
  refine l_whA hn hn1 hn6 hw ht n 0 (by omega)
theorem m_laughs {x y z : Int} {M : Me} {t u c : Int} {n : Nat} (hn : M 430 7 = (n : Int)) (hn6 : n ≤ 6) (hw : ∀ i : Int, 0 ≤ i → i < n → 1 ≤ M 430 (162 + i) ∧ M 430 (162 + i) ≤ 999) : Con kX11_laughs 1 0 0 [(1, 429), (0, t), (0, u), (0, c)] (Sf x y z) M (fun v9 S9 M9 => S9 = (Sf x y z) ∧ ((((0 ≤ t ∧ t ≤ 99) ∧ (0 ≤ c ∧ c ≤ M 430 7 - 1)) ∧ u ≠ 0) ∧ v9 = some (0, tnS (fun i => M 430 (162 + i)) n t.toNat c) ∧ M9 = row1 M 441 6 (tnS (fun i => M 430 (162 + i)) n t.toNat) ∨ (((0 ≤ t ∧ t ≤ 99) ∧ (0 ≤ c ∧ c ≤ M 430 7 - 1)) ∧ u = 0) ∧ v9 = some (0, t * M 430 (162 + c) / (smW (fun i => M 430 (162 + i)) n) + zW (fun i => M 430 (162 + i)) t (smW (fun i => M 430 (162 + i)) n) n c) ∧ M9 = lwM M (fun c : Int => if c < ((n : Nat) : Int) then t * M 430 (162 + c) / (smW (fun i => M 430 (162 + i)) n) + zW (fun i => M 430 (162 + i)) t (smW (fun i => M 430 (162 + i)) n) n c else M 441 c) (fun c : Int => if c < ((n : Nat) : Int) then zW (fun i => M 430 (162 + i)) t (smW (fun i => M 430 (162 + i)) n) n c else M 442 c) ∨ (¬ ((0 ≤ t ∧ t ≤ 99) ∧ (0 ≤ c ∧ c ≤ M 430 7 - 1))) ∧ v9 = some (0, -1) ∧ M9 = M)) := by
  refine Con.ofV (al := [(1, 429), (0, t), (0, u), (0, c)]) 0 (by decide) (Nat.le_of_ble_eq_true rfl) rfl ?_
  refine r_iload_n dX11_laughs_0 rfl ?_
  refine r_iconst dX11_laughs_1 (by decide) ?_
  refine r_bipush dX11_laughs_2 (by decide) (by decide) ?_
  refine r_cs3 dX11_laughs_4 clX11_62 (by first | decide | omega) (Nat.le_of_ble_eq_true rfl) (c_isIn) ⟨Nat.zero_le _, Nat.zero_le _⟩ (fun _ => ?_)
  refine r_if_eq (tgt := 27) dX11_laughs_7 (by decide) (fun h7 => ?_) (fun h7 => ?_)
  · try have h7 := bi_0.mp h7
    refine r_iconst dX11_laughs_27 (by decide) ?_
    refine r_iret dX11_laughs_28 rfl ?_
    first | exact ⟨rfl, Or.inl ⟨by omega, rfl, rfl⟩⟩ | exact ⟨rfl, Or.inr (Or.inl ⟨by omega, rfl, rfl⟩)⟩ | exact ⟨rfl, Or.inr (Or.inr (⟨by omega, rfl, rfl⟩))⟩
  · try have h7 := bi_1.mp h7
    refine r_iload_n dX11_laughs_10 rfl ?_
    refine r_iconst dX11_laughs_11 (by decide) ?_
    refine r_aload_n dX11_laughs_12 rfl (by decide) ?_
    refine r_getr (x := 430) dX11_laughs_13 flX11_7 sf429 (by decide) (by decide) rfl rfl ?_
    refine r_bipush dX11_laughs_16 (by decide) (by decide) ?_
    refine r_iald dX11_laughs_18 sf430 (by decide) (by omega) (by omega) (by decide) hn ?_
    refine r_iconst dX11_laughs_19 (by decide) ?_
    refine r_isub dX11_laughs_20 (w32_id (by omega)) ?_
    refine r_cs3 dX11_laughs_21 clX11_62 (by first | decide | omega) (Nat.le_of_ble_eq_true rfl) (c_isIn) ⟨Nat.zero_le _, Nat.zero_le _⟩ (fun _ => ?_)
    refine r_if_ne (tgt := 29) dX11_laughs_24 (by decide) (fun h24 => ?_) (fun h24 => ?_)
    · try have h24 := bi_1.mp h24
      refine r_iload_n dX11_laughs_29 rfl ?_
      refine r_if_eq (tgt := 41) dX11_laughs_30 (by decide) (fun h30 => ?_) (fun h30 => ?_)
      · try have h30 := bi_0.mp h30
        refine r_aload_n dX11_laughs_41 rfl (by decide) ?_
        refine r_iload_n dX11_laughs_42 rfl ?_
        obtain ⟨k, rfl⟩ : ∃ k : Nat, t = (k : Int) := ⟨t.toNat, by omega⟩
        refine r_cw1 dX11_laughs_43 clX11_427 sf429 (by decide) (by decide) rfl (by first | decide | omega) (Nat.le_of_ble_eq_true rfl) ((m_layWhole hn (by omega) hn6 hw (by omega))) ⟨Nat.zero_le _, Nat.zero_le _⟩ ?_
        refine r_aload_n dX11_laughs_46 rfl (by decide) ?_
        refine r_getr (x := 441) dX11_laughs_47 flX11_52 sf429 (by decide) (by decide) rfl rfl ?_
        refine r_iload_n dX11_laughs_50 rfl ?_
        refine r_iald dX11_laughs_51 sf441 (by decide) (by omega) (by omega) (by decide) (by first | exact rd_rX (by omega) rfl | exact rd_lwX (by omega) (if_pos (by omega))) ?_
        refine r_iret dX11_laughs_52 rfl ?_
        first | exact ⟨rfl, Or.inl ⟨by omega, rfl, rfl⟩⟩ | exact ⟨rfl, Or.inr (Or.inl ⟨by omega, rfl, rfl⟩)⟩ | exact ⟨rfl, Or.inr (Or.inr (⟨by omega, rfl, rfl⟩))⟩
      · try have h30 := bi_1.mp h30
        refine r_aload_n dX11_laughs_33 rfl (by decide) ?_
        refine r_iload_n dX11_laughs_34 rfl ?_
        obtain ⟨k, rfl⟩ : ∃ k : Nat, t = (k : Int) := ⟨t.toNat, by omega⟩
        refine r_cw1 dX11_laughs_35 clX11_424 sf429 (by decide) (by decide) rfl (by first | decide | omega) (Nat.le_of_ble_eq_true rfl) ((m_layTurns hn (by omega) hn6 hw (by omega))) ⟨Nat.zero_le _, Nat.zero_le _⟩ ?_
        refine V.cm rfl (show _ = row1 M 441 6 (tnS (fun i => M 430 (162 + i)) n (k : Int).toNat) from rfl) ?_
        refine r_goto (tgt := 46) dX11_laughs_38 (by decide) ?_
        refine r_aload_n dX11_laughs_46 rfl (by decide) ?_
        refine r_getr (x := 441) dX11_laughs_47 flX11_52 sf429 (by decide) (by decide) rfl rfl ?_
        refine r_iload_n dX11_laughs_50 rfl ?_
        refine r_iald dX11_laughs_51 sf441 (by decide) (by omega) (by omega) (by decide) (by first | exact rd_rX (by omega) rfl | exact rd_lwX (by omega) (if_pos (by omega))) ?_
        refine r_iret dX11_laughs_52 rfl ?_
        first | exact ⟨rfl, Or.inl ⟨by omega, rfl, rfl⟩⟩ | exact ⟨rfl, Or.inr (Or.inl ⟨by omega, rfl, rfl⟩)⟩ | exact ⟨rfl, Or.inr (Or.inr (⟨by omega, rfl, rfl⟩))⟩
    · try have h24 := bi_0.mp h24
      refine r_iconst dX11_laughs_27 (by decide) ?_
      refine r_iret dX11_laughs_28 rfl ?_
      first | exact ⟨rfl, Or.inl ⟨by omega, rfl, rfl⟩⟩ | exact ⟨rfl, Or.inr (Or.inl ⟨by omega, rfl, rfl⟩)⟩ | exact ⟨rfl, Or.inr (Or.inr (⟨by omega, rfl, rfl⟩))⟩
