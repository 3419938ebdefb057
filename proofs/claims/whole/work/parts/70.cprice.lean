theorem l_lbt0 {x y z : Int} {M : Me} {t : Nat} {c : Int} {Q : Option AV → Sh → Me → Prop} (hQ : V kX5_laughsByTurns 0 0 0 none Q 24 [(1, 12), (1, 227), (0, (t : Int)), (0, c), (9, 0), (9, 0), (9, 0), (9, 0)] [] (Sf x y z) (row1 M 14 6 (fun _ => 0)) 0 0) : ∀ (m i : Nat), m + i = 6 → V kX5_laughsByTurns 0 0 0 none Q 3 [(1, 12), (1, 227), (0, (t : Int)), (0, c), (0, (i : Int)), (9, 0), (9, 0), (9, 0)] [] (Sf x y z) (row1 M 14 6 (fun j => if j < (i : Int) then 0 else M 14 j)) 0 0 := by
  intro m
  induction m with
  | zero =>
    intro i hi
    obtain rfl : i = 6 := by omega
    refine r_iload dX5_laughsByTurns_3 rfl ?_
    refine r_bipush dX5_laughsByTurns_5 (by decide) (by decide) ?_
    refine r_icmp_ge (tgt := 24) dX5_laughsByTurns_7 (by decide) (fun h7 => ?_) (fun h7 => by exfalso; omega)
    refine V.cm rfl (row1_c (fun j h0 h1 => if_pos (by omega))) (wk4 hQ)
  | succ m ih =>
    intro i hi
    refine r_iload dX5_laughsByTurns_3 rfl ?_
    refine r_bipush dX5_laughsByTurns_5 (by decide) (by decide) ?_
    refine r_icmp_ge (tgt := 24) dX5_laughsByTurns_7 (by decide) (fun h7 => by exfalso; omega) (fun h7 => ?_)
    refine r_aload_n dX5_laughsByTurns_10 rfl (by decide) ?_
    refine r_getr (x := 14) dX5_laughsByTurns_11 flX5_15 sf12 (by decide) (by decide) rfl rfl ?_
    refine r_iload dX5_laughsByTurns_14 rfl ?_
    refine r_iconst dX5_laughsByTurns_16 (by decide) ?_
    refine r_iast dX5_laughsByTurns_17 sf14 (by decide) (by omega) (by omega) (by decide) rfl ?_
    refine V.cm rfl (row1_up (X' := fun j => if j < ((i + 1 : Nat) : Int) then 0 else M 14 j) (by omega) (fun j h0 h1 => by by_cases e : j = (i : Int); (rw [if_pos e, if_pos (by omega)]); (rw [if_neg e]; by_cases e2 : j < (i : Int); (rw [if_pos e2, if_pos (by omega)]); (rw [if_neg e2, if_neg (by omega)])))) ?_
    refine r_iinc dX5_laughsByTurns_18 rfl rfl (by decide) (w32_id (by omega)) st4 ?_
    refine r_goto (tgt := 3) dX5_laughsByTurns_21 (by decide) ?_
    exact ih (i + 1) (by omega)
theorem l_lbt1 {x y z : Int} {M : Me} {n : Nat} (hn : M 227 0 = (n : Int)) (hn1 : 1 ≤ n) (hn6 : n ≤ 6) (hw : ∀ i : Int, 0 ≤ i → i < n → 1 ≤ M 228 i ∧ M 228 i ≤ 999) {t : Nat} {c : Int} {s : Nat} (hs : s ≤ 99) {Q : Option AV → Sh → Me → Prop} (hQ : V kX5_laughsByTurns 0 0 0 none Q 112 [(1, 12), (1, 227), (0, (t : Int)), (0, c), (0, (s : Int)), (0, bB (fun i : Int => M 228 i) (tnS (fun i : Int => M 228 i) n s) (n - 1)), (9, 0), (9, 0)] [] (Sf x y z) (row1 M 14 6 (tnS (fun i : Int => M 228 i) n s)) 0 0) : ∀ (m i : Nat), m + i = n - 1 → V kX5_laughsByTurns 0 0 0 none Q 39 [(1, 12), (1, 227), (0, (t : Int)), (0, c), (0, (s : Int)), (0, bB (fun i : Int => M 228 i) (tnS (fun i : Int => M 228 i) n s) i), (0, (i : Int) + 1), (9, 0)] [] (Sf x y z) (row1 M 14 6 (tnS (fun i : Int => M 228 i) n s)) 0 0 := by
  intro m
  induction m with
  | zero =>
    intro i hi
    obtain rfl : i = n - 1 := by omega
    refine r_iload dX5_laughsByTurns_39 rfl ?_
    refine r_aload_n dX5_laughsByTurns_41 rfl (by decide) ?_
    refine r_gi 0 dX5_laughsByTurns_42 flX5_72 sf227 (by decide) (by decide) rfl rfl ((row1_o (by omega)).trans hn) ?_
    refine r_icmp_ge (tgt := 112) dX5_laughsByTurns_45 (by decide) (fun h45 => ?_) (fun h45 => by exfalso; omega)
    exact wk6 hQ
  | succ m ih =>
    intro i hi
    have hb := bB_b (w := (fun i : Int => M 228 i)) (T := (tnS (fun i : Int => M 228 i) n s)) i
    have h1 := hw ((i : Int) + 1) (by omega) (by omega)
    have h2 := hw (bB (fun i : Int => M 228 i) (tnS (fun i : Int => M 228 i) n s) i) (by omega) (by omega)
    have t1 := tnS_b (w := (fun i : Int => M 228 i)) (n := n) ((i : Int) + 1) s
    have t2 := tnS_b (w := (fun i : Int => M 228 i)) (n := n) (bB (fun i : Int => M 228 i) (tnS (fun i : Int => M 228 i) n s) i) s
    have ih9 := ih (i + 1) (by omega)
    have et := bB_t (w := (fun i : Int => M 228 i)) (T := (tnS (fun i : Int => M 228 i) n s)) (k := i)
    have ef := bB_f (w := (fun i : Int => M 228 i)) (T := (tnS (fun i : Int => M 228 i) n s)) (k := i)
    generalize bB (fun i : Int => M 228 i) (tnS (fun i : Int => M 228 i) n s) (i + 1) = e2 at ih9 et ef
    generalize bB (fun i : Int => M 228 i) (tnS (fun i : Int => M 228 i) n s) i = e1 at hb h2 t2 et ef ⊢
    refine r_iload dX5_laughsByTurns_39 rfl ?_
    refine r_aload_n dX5_laughsByTurns_41 rfl (by decide) ?_
    refine r_gi 0 dX5_laughsByTurns_42 flX5_72 sf227 (by decide) (by decide) rfl rfl ((row1_o (by omega)).trans hn) ?_
    refine r_icmp_ge (tgt := 112) dX5_laughsByTurns_45 (by decide) (fun h45 => by exfalso; omega) (fun h45 => ?_)
    refine r_aload_n dX5_laughsByTurns_48 rfl (by decide) ?_
    refine r_getr (x := 228) dX5_laughsByTurns_49 flX5_77 sf227 (by decide) (by decide) rfl rfl ?_
    refine r_iload dX5_laughsByTurns_52 rfl ?_
    refine r_iald dX5_laughsByTurns_54 sf228 (by decide) (by omega) (by omega) (by decide) (row1_o (by omega)) ?_
    refine r_aload_n dX5_laughsByTurns_55 rfl (by decide) ?_
    refine r_getr (x := 14) dX5_laughsByTurns_56 flX5_15 sf12 (by decide) (by decide) rfl rfl ?_
    refine r_iload dX5_laughsByTurns_59 rfl ?_
    refine r_iald dX5_laughsByTurns_61 sf14 (by decide) (by omega) (by omega) (by decide) (rd_rX (by omega) rfl) ?_
    refine r_iconst dX5_laughsByTurns_62 (by decide) ?_
    refine r_iadd dX5_laughsByTurns_63 (w32_id (by omega)) ?_
    refine r_imul dX5_laughsByTurns_64 (w32_id (mb3 (by omega) (by omega))) ?_
    refine r_aload_n dX5_laughsByTurns_65 rfl (by decide) ?_
    refine r_getr (x := 228) dX5_laughsByTurns_66 flX5_77 sf227 (by decide) (by decide) rfl rfl ?_
    refine r_iload dX5_laughsByTurns_69 rfl ?_
    refine r_iald dX5_laughsByTurns_71 sf228 (by decide) (by omega) (by omega) (by decide) (row1_o (by omega)) ?_
    refine r_aload_n dX5_laughsByTurns_72 rfl (by decide) ?_
    refine r_getr (x := 14) dX5_laughsByTurns_73 flX5_15 sf12 (by decide) (by decide) rfl rfl ?_
    refine r_iload dX5_laughsByTurns_76 rfl ?_
    refine r_iald dX5_laughsByTurns_78 sf14 (by decide) (by omega) (by omega) (by decide) (rd_rX (by omega) rfl) ?_
    refine r_iconst dX5_laughsByTurns_79 (by decide) ?_
    refine r_iadd dX5_laughsByTurns_80 (w32_id (by omega)) ?_
    refine r_imul dX5_laughsByTurns_81 (w32_id (mb3 (by omega) (by omega))) ?_
    refine r_icmp_le (tgt := 89) dX5_laughsByTurns_82 (by decide) (fun h82 => ?_) (fun h82 => ?_)
    · refine r_iconst dX5_laughsByTurns_89 (by decide) ?_
      refine r_istore dX5_laughsByTurns_90 rfl (by decide) st7 ?_
      refine r_iload dX5_laughsByTurns_92 rfl ?_
      refine r_if_eq (tgt := 102) dX5_laughsByTurns_94 (by decide) (fun h94 => ?_) (fun h94 => by exfalso; omega)
      refine r_iload dX5_laughsByTurns_102 rfl ?_
      refine r_istore dX5_laughsByTurns_104 rfl (by decide) st5 ?_
      refine r_iinc dX5_laughsByTurns_106 rfl rfl (by decide) (w32_id (by omega)) st6 ?_
      refine r_goto (tgt := 39) dX5_laughsByTurns_109 (by decide) ?_
      refine wk7 ?_
      first | (rw [et (by assumption)] at ih9; exact ih9) | (rw [ef (by exact Int.not_lt.mpr (by assumption))] at ih9; exact ih9)
    · refine r_iconst dX5_laughsByTurns_85 (by decide) ?_
      refine r_goto (tgt := 90) dX5_laughsByTurns_86 (by decide) ?_
      refine r_istore dX5_laughsByTurns_90 rfl (by decide) st7 ?_
      refine r_iload dX5_laughsByTurns_92 rfl ?_
      refine r_if_eq (tgt := 102) dX5_laughsByTurns_94 (by decide) (fun h94 => by exfalso; omega) (fun h94 => ?_)
      refine r_iload dX5_laughsByTurns_97 rfl ?_
      refine r_goto (tgt := 104) dX5_laughsByTurns_99 (by decide) ?_
      refine r_istore dX5_laughsByTurns_104 rfl (by decide) st5 ?_
      refine r_iinc dX5_laughsByTurns_106 rfl rfl (by decide) (w32_id (by omega)) st6 ?_
      refine r_goto (tgt := 39) dX5_laughsByTurns_109 (by decide) ?_
      refine wk7 ?_
      first | (rw [et (by assumption)] at ih9; exact ih9) | (rw [ef (by exact Int.not_lt.mpr (by assumption))] at ih9; exact ih9)
theorem l_lbt2 {x y z : Int} {M : Me} {n : Nat} (hn : M 227 0 = (n : Int)) (hn1 : 1 ≤ n) (hn6 : n ≤ 6) (hw : ∀ i : Int, 0 ≤ i → i < n → 1 ≤ M 228 i ∧ M 228 i ≤ 999) {t : Nat} (ht : t ≤ 99) {c : Int} (hc : 0 ≤ c ∧ c < 6) : ∀ (m s : Nat), m + s = t → V kX5_laughsByTurns 0 0 0 none (Ex (some (0, (tnS (fun i : Int => M 228 i) n t) c)) (Sf x y z) (row1 M 14 6 (tnS (fun i : Int => M 228 i) n t))) 27 [(1, 12), (1, 227), (0, (t : Int)), (0, c), (0, (s : Int)), (9, 0), (9, 0), (9, 0)] [] (Sf x y z) (row1 M 14 6 (tnS (fun i : Int => M 228 i) n s)) 0 0 := by
  intro m
  induction m with
  | zero =>
    intro s hs
    obtain rfl : s = t := by omega
    refine r_iload dX5_laughsByTurns_27 rfl ?_
    refine r_iload_n dX5_laughsByTurns_29 rfl ?_
    refine r_icmp_ge (tgt := 129) dX5_laughsByTurns_30 (by decide) (fun h30 => ?_) (fun h30 => by exfalso; omega)
    refine r_aload_n dX5_laughsByTurns_129 rfl (by decide) ?_
    refine r_getr (x := 14) dX5_laughsByTurns_130 flX5_15 sf12 (by decide) (by decide) rfl rfl ?_
    refine r_iload_n dX5_laughsByTurns_133 rfl ?_
    refine r_iald dX5_laughsByTurns_134 sf14 (by decide) (by omega) (by omega) (by decide) (rd_rX (by omega) rfl) ?_
    refine r_iret dX5_laughsByTurns_135 rfl ?_
    exact ⟨rfl, rfl, rfl⟩
  | succ m ih =>
    intro s hs
    have hb := bB_b (w := (fun i : Int => M 228 i)) (T := (tnS (fun i : Int => M 228 i) n s)) (n - 1)
    have t2 := tnS_b (w := (fun i : Int => M 228 i)) (n := n) (bB (fun i : Int => M 228 i) (tnS (fun i : Int => M 228 i) n s) (n - 1)) s
    refine r_iload dX5_laughsByTurns_27 rfl ?_
    refine r_iload_n dX5_laughsByTurns_29 rfl ?_
    refine r_icmp_ge (tgt := 129) dX5_laughsByTurns_30 (by decide) (fun h30 => by exfalso; omega) (fun h30 => ?_)
    refine r_iconst dX5_laughsByTurns_33 (by decide) ?_
    refine r_istore dX5_laughsByTurns_34 rfl (by decide) st5 ?_
    refine r_iconst dX5_laughsByTurns_36 (by decide) ?_
    refine r_istore dX5_laughsByTurns_37 rfl (by decide) st6 ?_
    refine l_lbt1 hn hn1 hn6 hw (by omega) ?_ (n - 1) 0 (by omega)
    refine r_aload_n dX5_laughsByTurns_112 rfl (by decide) ?_
    refine r_getr (x := 14) dX5_laughsByTurns_113 flX5_15 sf12 (by decide) (by decide) rfl rfl ?_
    refine r_iload dX5_laughsByTurns_116 rfl ?_
    refine r_dup2 dX5_laughsByTurns_118 (Nat.ne_of_beq_eq_false rfl) (Nat.ne_of_beq_eq_false rfl) ?_
    refine r_iald dX5_laughsByTurns_119 sf14 (by decide) (by omega) (by omega) (by decide) (rd_rX (by omega) rfl) ?_
    refine r_iconst dX5_laughsByTurns_120 (by decide) ?_
    refine r_iadd dX5_laughsByTurns_121 (w32_id (by omega)) ?_
    refine r_iast dX5_laughsByTurns_122 sf14 (by decide) (by omega) (by omega) (by decide) rfl ?_
    refine V.cm rfl (row1_up (by omega) (fun c _ _ => tnS_s c)) ?_
    refine r_iinc dX5_laughsByTurns_123 rfl rfl (by decide) (w32_id (by omega)) st4 ?_
    refine r_goto (tgt := 27) dX5_laughsByTurns_126 (by decide) ?_
    exact wk5 (ih (s + 1) (by omega))
theorem c_laughsByTurns {x y z : Int} {M : Me} {n : Nat} (hn : M 227 0 = (n : Int)) (hn1 : 1 ≤ n) (hn6 : n ≤ 6) (hw : ∀ i : Int, 0 ≤ i → i < n → 1 ≤ M 228 i ∧ M 228 i ≤ 999) {t : Nat} (ht : t ≤ 99) {c : Int} (hc : 0 ≤ c ∧ c < 6) : Con kX5_laughsByTurns 0 0 0 [(1, 12), (1, 227), (0, (t : Int)), (0, c)] (Sf x y z) M (Ex (some (0, (tnS (fun i : Int => M 228 i) n t) c)) (Sf x y z) (row1 M 14 6 (tnS (fun i : Int => M 228 i) n t))) := by
  refine Con.ofV (al := [(1, 12), (1, 227), (0, (t : Int)), (0, c), (9, 0), (9, 0), (9, 0), (9, 0)]) 4 (by decide) (Nat.le_of_ble_eq_true rfl) rfl ?_
  refine r_iconst dX5_laughsByTurns_0 (by decide) ?_
  refine r_istore dX5_laughsByTurns_1 rfl (by decide) st4 ?_
  refine V.cm rfl (row1_id.trans (row1_c (fun j h0 h1 => (if_neg (by omega)).symm))) (l_lbt0 ?_ 6 0 (by omega))
  refine r_iconst dX5_laughsByTurns_24 (by decide) ?_
  refine r_istore dX5_laughsByTurns_25 rfl (by decide) st4 ?_
  exact l_lbt2 hn hn1 hn6 hw ht hc t 0 (by omega)
def tkC (M : Me) (u : Int) : Nat → Int := isum (fun k : Int => u ≤ M 232 k) (fun _ => u)
theorem tkC_b {M : Me} {u : Int} (hu : 0 ≤ u ∧ u ≤ 999) : ∀ i : Nat, 0 ≤ tkC M u i ∧ tkC M u i ≤ 999 * i := by
  intro i
  induction i with
  | zero => exact (show (0 : Int) ≤ 0 ∧ (0 : Int) ≤ 999 * ((0 : Nat) : Int) by omega)
  | succ i ih =>
    by_cases q : u ≤ M 232 i
    · have : tkC M u (i + 1) = tkC M u i + u := isum_t (p := fun k : Int => u ≤ M 232 k) (f := fun _ => u) q
      omega
    · have : tkC M u (i + 1) = tkC M u i + 0 := isum_f (p := fun k : Int => u ≤ M 232 k) (f := fun _ => u) q
      omega
theorem l_takings {x y z : Int} {M : Me} {n : Nat} (hn : M 231 0 = (n : Int)) (hn8 : n ≤ 8) {u : Int} (hu : 0 ≤ u ∧ u ≤ 999) : ∀ (m i : Nat), m + i = n → V kX5_takings 0 0 0 none (Ex (some (0, tkC M u n)) (Sf x y z) M) 5 [(1, 12), (1, 231), (0, u), (0, tkC M u i), (0, (i : Int))] [] (Sf x y z) M 0 0 := by
  intro m
  induction m with
  | zero =>
    intro i hi
    obtain rfl : i = n := by omega
    refine r_iload dX5_takings_5 rfl ?_
    refine r_aload_n dX5_takings_7 rfl (by decide) ?_
    refine r_gi 0 dX5_takings_8 flX5_72 sf231 (by decide) (by decide) rfl rfl hn ?_
    refine r_icmp_ge (tgt := 39) dX5_takings_11 (by decide) (fun h11 => ?_) (fun h11 => by exfalso; omega)
    refine r_iload_n dX5_takings_39 rfl ?_
    refine r_iret dX5_takings_40 rfl ?_
    exact ⟨rfl, rfl, rfl⟩
  | succ m ih =>
    intro i hi
    have hb := tkC_b (M := M) hu i
    have ih9 := ih (i + 1) (by omega)
    have et : u ≤ M 232 i → tkC M u (i + 1) = tkC M u i + u := fun q => isum_t (p := fun k : Int => u ≤ M 232 k) (f := fun _ => u) q
    have ef : ¬ u ≤ M 232 i → tkC M u (i + 1) = tkC M u i + 0 := fun q => isum_f (p := fun k : Int => u ≤ M 232 k) (f := fun _ => u) q
    refine r_iload dX5_takings_5 rfl ?_
    refine r_aload_n dX5_takings_7 rfl (by decide) ?_
    refine r_gi 0 dX5_takings_8 flX5_72 sf231 (by decide) (by decide) rfl rfl hn ?_
    refine r_icmp_ge (tgt := 39) dX5_takings_11 (by decide) (fun h11 => by exfalso; omega) (fun h11 => ?_)
    refine r_iload_n dX5_takings_14 rfl ?_
    refine r_aload_n dX5_takings_15 rfl (by decide) ?_
    refine r_getr (x := 232) dX5_takings_16 flX5_77 sf231 (by decide) (by decide) rfl rfl ?_
    refine r_iload dX5_takings_19 rfl ?_
    refine r_iald dX5_takings_21 sf232 (by decide) (by omega) (by omega) (by decide) rfl ?_
    refine r_iload_n dX5_takings_22 rfl ?_
    refine r_icmp_lt (tgt := 30) dX5_takings_23 (by decide) (fun h23 => ?_) (fun h23 => ?_)
    · refine r_iconst dX5_takings_30 (by decide) ?_
      refine r_iadd dX5_takings_31 (w32_id (by omega)) ?_
      refine r_istore_n dX5_takings_32 rfl (by decide) st3 ?_
      refine r_iinc dX5_takings_33 rfl rfl (by decide) (w32_id (by omega)) st4 ?_
      refine r_goto (tgt := 5) dX5_takings_36 (by decide) ?_
      first | (rw [et (by omega)] at ih9; exact ih9) | (rw [ef (by omega)] at ih9; exact ih9)
    · refine r_iload_n dX5_takings_26 rfl ?_
      refine r_goto (tgt := 31) dX5_takings_27 (by decide) ?_
      refine r_iadd dX5_takings_31 (w32_id (by omega)) ?_
      refine r_istore_n dX5_takings_32 rfl (by decide) st3 ?_
      refine r_iinc dX5_takings_33 rfl rfl (by decide) (w32_id (by omega)) st4 ?_
      refine r_goto (tgt := 5) dX5_takings_36 (by decide) ?_
      first | (rw [et (by omega)] at ih9; exact ih9) | (rw [ef (by omega)] at ih9; exact ih9)
theorem c_takings {x y z : Int} {M : Me} {n : Nat} (hn : M 231 0 = (n : Int)) (hn8 : n ≤ 8) {u : Int} (hu : 0 ≤ u ∧ u ≤ 999) : Con kX5_takings 0 0 0 [(1, 12), (1, 231), (0, u)] (Sf x y z) M (Ex (some (0, tkC M u n)) (Sf x y z) M) := by
  refine Con.ofV (al := [(1, 12), (1, 231), (0, u), (9, 0), (9, 0)]) 2 (by decide) (Nat.le_of_ble_eq_true rfl) rfl ?_
  refine r_iconst dX5_takings_0 (by decide) ?_
  refine r_istore_n dX5_takings_1 rfl (by decide) st3 ?_
  refine r_iconst dX5_takings_2 (by decide) ?_
  refine r_istore dX5_takings_3 rfl (by decide) st4 ?_
  exact l_takings hn hn8 hu n 0 (by omega)
/-- the best of the first so many offers -/
def bpC (M : Me) (n : Nat) : Nat → Int
  | 0 => 0
  | i + 1 => if 0 < tkC M (M 232 (i : Int)) n - tkC M (bpC M n i) n ∨ (tkC M (M 232 (i : Int)) n - tkC M (bpC M n i) n = 0 ∧ M 232 (i : Int) < bpC M n i) then M 232 (i : Int) else bpC M n i
theorem bpC_t {M : Me} {n i : Nat} (h : 0 < tkC M (M 232 (i : Int)) n - tkC M (bpC M n i) n ∨ (tkC M (M 232 (i : Int)) n - tkC M (bpC M n i) n = 0 ∧ M 232 (i : Int) < bpC M n i)) : bpC M n (i + 1) = M 232 (i : Int) := if_pos h
theorem bpC_f {M : Me} {n i : Nat} (h : ¬ (0 < tkC M (M 232 (i : Int)) n - tkC M (bpC M n i) n ∨ (tkC M (M 232 (i : Int)) n - tkC M (bpC M n i) n = 0 ∧ M 232 (i : Int) < bpC M n i))) : bpC M n (i + 1) = bpC M n i := if_neg h
theorem bpC_b {M : Me} {n : Nat} (ho : ∀ k : Int, 0 ≤ k → k < n → 0 ≤ M 232 k ∧ M 232 k ≤ 999) : ∀ i : Nat, i ≤ n → 0 ≤ bpC M n i ∧ bpC M n i ≤ 999 := by
  intro i
  induction i with
  | zero => intro _; exact (show (0 : Int) ≤ 0 ∧ (0 : Int) ≤ 999 by decide)
  | succ i ih =>
    intro hi
    unfold bpC
    split
    · exact ho i (by omega) (by omega)
    · exact ih (by omega)
theorem l_bestPrice {x y z : Int} {M : Me} {n : Nat} (hn : M 231 0 = (n : Int)) (hn8 : n ≤ 8) (ho : ∀ k : Int, 0 ≤ k → k < n → 0 ≤ M 232 k ∧ M 232 k ≤ 999) : ∀ (m i : Nat), m + i = n → V kX5_bestPrice 0 0 1 none (Ex (some (0, bpC M n n)) (Sf x y z) M) 4 [(1, 12), (1, 231), (0, bpC M n i), (0, (i : Int)), (9, 0), (9, 0)] [] (Sf x y z) M 0 0 := by
  intro m
  induction m with
  | zero =>
    intro i hi
    obtain rfl : i = n := by omega
    refine r_iload_n dX5_bestPrice_4 rfl ?_
    refine r_aload_n dX5_bestPrice_5 rfl (by decide) ?_
    refine r_gi 0 dX5_bestPrice_6 flX5_72 sf231 (by decide) (by decide) rfl rfl hn ?_
    refine r_icmp_ge (tgt := 65) dX5_bestPrice_9 (by decide) (fun h9 => ?_) (fun h9 => by exfalso; omega)
    refine r_iload_n dX5_bestPrice_65 rfl ?_
    refine r_iret dX5_bestPrice_66 rfl ?_
    exact ⟨rfl, rfl, rfl⟩
  | succ m ih =>
    intro i hi
    have hb := bpC_b ho i (by omega)
    have h1 := ho i (by omega) (by omega)
    have t1 := tkC_b (M := M) h1 n
    have t2 := tkC_b (M := M) hb n
    have ih9 := ih (i + 1) (by omega)
    have et := bpC_t (M := M) (n := n) (i := i)
    have ef := bpC_f (M := M) (n := n) (i := i)
    refine r_iload_n dX5_bestPrice_4 rfl ?_
    refine r_aload_n dX5_bestPrice_5 rfl (by decide) ?_
    refine r_gi 0 dX5_bestPrice_6 flX5_72 sf231 (by decide) (by decide) rfl rfl hn ?_
    refine r_icmp_ge (tgt := 65) dX5_bestPrice_9 (by decide) (fun h9 => by exfalso; omega) (fun h9 => ?_)
    refine r_aload_n dX5_bestPrice_12 rfl (by decide) ?_
    refine r_getr (x := 232) dX5_bestPrice_13 flX5_77 sf231 (by decide) (by decide) rfl rfl ?_
    refine r_iload_n dX5_bestPrice_16 rfl ?_
    refine r_iald dX5_bestPrice_17 sf232 (by decide) (by omega) (by omega) (by decide) rfl ?_
    refine r_istore dX5_bestPrice_18 rfl (by decide) st4 ?_
    refine r_aload_n dX5_bestPrice_20 rfl (by decide) ?_
    refine r_aload_n dX5_bestPrice_21 rfl (by decide) ?_
    refine r_iload dX5_bestPrice_22 rfl ?_
    refine r_cv2 dX5_bestPrice_24 clX5_105 sf12 (by decide) (by decide) rfl (by first | decide | omega) (Nat.le_of_ble_eq_true rfl) ((c_takings hn hn8 h1)) ⟨Nat.zero_le _, Nat.zero_le _⟩ (fun _ => ?_)
    refine r_aload_n dX5_bestPrice_27 rfl (by decide) ?_
    refine r_aload_n dX5_bestPrice_28 rfl (by decide) ?_
    refine r_iload_n dX5_bestPrice_29 rfl ?_
    refine r_cv2 dX5_bestPrice_30 clX5_105 sf12 (by decide) (by decide) rfl (by first | decide | omega) (Nat.le_of_ble_eq_true rfl) ((c_takings hn hn8 hb)) ⟨Nat.zero_le _, Nat.zero_le _⟩ (fun _ => ?_)
    refine r_isub dX5_bestPrice_33 (w32_id (by omega)) ?_
    refine r_istore dX5_bestPrice_34 rfl (by decide) st5 ?_
    refine r_iload dX5_bestPrice_36 rfl ?_
    refine r_if_gt (tgt := 52) dX5_bestPrice_38 (by decide) (fun h38 => ?_) (fun h38 => ?_)
    · refine r_iload dX5_bestPrice_52 rfl ?_
      refine r_goto (tgt := 58) dX5_bestPrice_54 (by decide) ?_
      refine r_istore_n dX5_bestPrice_58 rfl (by decide) st2 ?_
      refine r_iinc dX5_bestPrice_59 rfl rfl (by decide) (w32_id (by omega)) st3 ?_
      refine r_goto (tgt := 4) dX5_bestPrice_62 (by decide) ?_
      refine wk4 (wk5 ?_)
      first | (rw [et (by omega)] at ih9; exact ih9) | (rw [ef (by omega)] at ih9; exact ih9)
    · refine r_iload dX5_bestPrice_41 rfl ?_
      refine r_if_ne (tgt := 57) dX5_bestPrice_43 (by decide) (fun h43 => ?_) (fun h43 => ?_)
      · refine r_iload_n dX5_bestPrice_57 rfl ?_
        refine r_istore_n dX5_bestPrice_58 rfl (by decide) st2 ?_
        refine r_iinc dX5_bestPrice_59 rfl rfl (by decide) (w32_id (by omega)) st3 ?_
        refine r_goto (tgt := 4) dX5_bestPrice_62 (by decide) ?_
        refine wk4 (wk5 ?_)
        first | (rw [et (by omega)] at ih9; exact ih9) | (rw [ef (by omega)] at ih9; exact ih9)
      · refine r_iload dX5_bestPrice_46 rfl ?_
        refine r_iload_n dX5_bestPrice_48 rfl ?_
        refine r_icmp_ge (tgt := 57) dX5_bestPrice_49 (by decide) (fun h49 => ?_) (fun h49 => ?_)
        · refine r_iload_n dX5_bestPrice_57 rfl ?_
          refine r_istore_n dX5_bestPrice_58 rfl (by decide) st2 ?_
          refine r_iinc dX5_bestPrice_59 rfl rfl (by decide) (w32_id (by omega)) st3 ?_
          refine r_goto (tgt := 4) dX5_bestPrice_62 (by decide) ?_
          refine wk4 (wk5 ?_)
          first | (rw [et (by omega)] at ih9; exact ih9) | (rw [ef (by omega)] at ih9; exact ih9)
        · refine r_iload dX5_bestPrice_52 rfl ?_
          refine r_goto (tgt := 58) dX5_bestPrice_54 (by decide) ?_
          refine r_istore_n dX5_bestPrice_58 rfl (by decide) st2 ?_
          refine r_iinc dX5_bestPrice_59 rfl rfl (by decide) (w32_id (by omega)) st3 ?_
          refine r_goto (tgt := 4) dX5_bestPrice_62 (by decide) ?_
          refine wk4 (wk5 ?_)
          first | (rw [et (by omega)] at ih9; exact ih9) | (rw [ef (by omega)] at ih9; exact ih9)
theorem c_bestPrice {x y z : Int} {M : Me} {n : Nat} (hn : M 231 0 = (n : Int)) (hn8 : n ≤ 8) (ho : ∀ k : Int, 0 ≤ k → k < n → 0 ≤ M 232 k ∧ M 232 k ≤ 999) : Con kX5_bestPrice 1 0 0 [(1, 12), (1, 231)] (Sf x y z) M (Ex (some (0, bpC M n n)) (Sf x y z) M) := by
  refine Con.ofV (al := [(1, 12), (1, 231), (9, 0), (9, 0), (9, 0), (9, 0)]) 4 (by decide) (Nat.le_of_ble_eq_true rfl) rfl ?_
  refine r_iconst dX5_bestPrice_0 (by decide) ?_
  refine r_istore_n dX5_bestPrice_1 rfl (by decide) st2 ?_
  refine r_iconst dX5_bestPrice_2 (by decide) ?_
  refine r_istore_n dX5_bestPrice_3 rfl (by decide) st3 ?_
  exact l_bestPrice hn hn8 ho n 0 (by omega)
theorem l_powerC {S : Sh} {M : Me} {a : AV} {b : Int} (h0 : 0 ≤ b) (h1 : b ≤ 100) {n : Nat} (hn : n ≤ 9) : ∀ (m i : Nat), m + i = n → V kX5_power 0 0 0 none (Ex (some (2, pwI b n)) S M) 6 [a, (2, b), (9, 0), (0, (n : Int)), (2, pwI b i), (9, 0), (0, (i : Int))] [] S M 0 0 := by
  intro m
  induction m with
  | zero =>
    intro i hi
    obtain rfl : i = n := by omega
    refine r_iload dX5_power_6 rfl ?_
    refine r_iload_n dX5_power_8 rfl ?_
    refine r_icmp_ge (tgt := 24) dX5_power_9 (by decide) (fun h9 => ?_) (fun h9 => by exfalso; omega)
    refine r_lload dX5_power_24 rfl ?_
    refine r_lret dX5_power_26 rfl ?_
    exact ⟨rfl, rfl, rfl⟩
  | succ m ih =>
    intro i hi
    have hb := pwI_b h0 h1 (i := i + 1) (by omega)
    have e : pwI b (i + 1) = pwI b i * b := rfl
    refine r_iload dX5_power_6 rfl ?_
    refine r_iload_n dX5_power_8 rfl ?_
    refine r_icmp_ge (tgt := 24) dX5_power_9 (by decide) (fun h9 => by exfalso; omega) (fun h9 => ?_)
    refine r_lload dX5_power_12 rfl ?_
    refine r_lload_n dX5_power_14 rfl ?_
    refine r_lmul dX5_power_15 (w64_id (by omega)) ?_
    refine r_lstore dX5_power_16 rfl (by decide) sl4 ?_
    refine r_iinc dX5_power_18 rfl rfl (by decide) (w32_id (by omega)) st6 ?_
    refine r_goto (tgt := 6) dX5_power_21 (by decide) ?_
    exact ih (i + 1) (by omega)
theorem c_powerC {S : Sh} {M : Me} {b : Int} (h0 : 0 ≤ b) (h1 : b ≤ 100) {n : Nat} (hn : n ≤ 9) : Con kX5_power 0 0 0 [(1, 12), (2, b), (0, (n : Int))] S M (Ex (some (2, pwI b n)) S M) := by
  refine Con.ofV (al := [(1, 12), (2, b), (9, 0), (0, (n : Int)), (9, 0), (9, 0), (9, 0)]) 3 (by decide) (Nat.le_of_ble_eq_true rfl) rfl ?_
  refine r_lconst (x := 1) dX5_power_0 rfl (by decide) ?_
  refine r_lstore dX5_power_1 rfl (by decide) sl4 ?_
  refine r_iconst dX5_power_3 (by decide) ?_
  refine r_istore dX5_power_4 rfl (by decide) st6 ?_
  exact l_powerC h0 h1 hn n 0 (by omega)
theorem l_wrongWays {x y z : Int} {M : Me} {n p l : Nat} (hn : n ≤ 9) (hp : p ≤ 100) : ∀ (m j : Nat), m + j = n + 1 → V kX5_wrongWays 0 0 1 none (Ex (some (2, wrS n p l (n + 1 - l))) (Sf x y z) M) 9 [(1, 12), (0, (n : Int)), (0, (l : Int)), (0, (p : Int)), (2, wrS n p l (j - l)), (9, 0), (2, wyI n j), (9, 0), (0, (j : Int))] [] (Sf x y z) M 0 0 := by
  intro m
  induction m with
  | zero =>
    intro j hj
    obtain rfl : j = n + 1 := by omega
    refine r_iload dX5_wrongWays_9 rfl ?_
    refine r_iload_n dX5_wrongWays_11 rfl ?_
    refine r_icmp_gt (tgt := 73) dX5_wrongWays_12 (by decide) (fun h12 => ?_) (fun h12 => by exfalso; omega)
    refine r_lload dX5_wrongWays_73 rfl ?_
    refine r_lret dX5_wrongWays_75 rfl ?_
    exact ⟨rfl, rfl, rfl⟩
  | succ m ih =>
    intro j hj
    obtain ⟨q, rfl⟩ : ∃ q : Nat, n - j = q := ⟨_, rfl⟩
    have h1 := wyI_b n hn j (by omega)
    have h2 := wr_b n hn p hp j (by omega)
    have h3 : wrT n p j = wyI n j * pwI p j * pwI (100 - p) (n - j) := rfl
    have hp2 := pwI_b (b := (p : Int)) (by omega) (by omega) (i := j) (by omega)
    have hp3 := pwI_b (b := 100 - (p : Int)) (by omega) (by omega) (i := n - j) (by omega)
    have hs := wrS_0 hn hp (l := l) (j - l)
    have hs2 := fun q : l ≤ j => wrS_0 hn hp (l := 0) j (by omega)
    have ih9 := ih (j + 1) (by omega)
    rw [show wyI n (j + 1) = (wyI n j * (n - j)).tdiv ((j : Int) + 1) from rfl] at ih9
    have et : l ≤ j → wrS n p l ((j + 1) - l) = wrS n p l (j - l) + wrT n p j := fun q => by
      rw [show j + 1 - l = (j - l) + 1 by omega]
      show wrS n p l (j - l) + wrT n p (l + (j - l)) = _
      rw [show l + (j - l) = j by omega]
    have ef : ¬ l ≤ j → wrS n p l ((j + 1) - l) = wrS n p l (j - l) := fun q => by
      rw [show j + 1 - l = 0 by omega, show j - l = 0 by omega]
    have hle : l ≤ j → 0 ≤ wrS n p l (j - l) ∧ wrS n p l (j - l) ≤ wrS n p 0 j := fun q => by
      have := hs (by omega)
      rwa [show l + (j - l) = j by omega] at this
    have ej : ((n - j : Nat) : Int) = (n : Int) - j := by omega
    refine r_iload dX5_wrongWays_9 rfl ?_
    refine r_iload_n dX5_wrongWays_11 rfl ?_
    refine r_icmp_gt (tgt := 73) dX5_wrongWays_12 (by decide) (fun h12 => by exfalso; omega) (fun h12 => ?_)
    refine r_iload dX5_wrongWays_15 rfl ?_
    refine r_iload_n dX5_wrongWays_17 rfl ?_
    refine r_icmp_lt (tgt := 51) dX5_wrongWays_18 (by decide) (fun h18 => ?_) (fun h18 => ?_)
    · refine r_lload dX5_wrongWays_51 rfl ?_
      refine r_iload_n dX5_wrongWays_53 rfl ?_
      refine r_iload dX5_wrongWays_54 rfl ?_
      refine r_isub dX5_wrongWays_56 (w32_id (by omega)) ?_
      refine r_i2l dX5_wrongWays_57 ?_
      refine r_lmul dX5_wrongWays_58 (w64_id (by omega)) ?_
      refine r_iload dX5_wrongWays_59 rfl ?_
      refine r_iconst dX5_wrongWays_61 (by decide) ?_
      refine r_iadd dX5_wrongWays_62 (w32_id (by omega)) ?_
      refine r_i2l dX5_wrongWays_63 ?_
      refine r_ldiv dX5_wrongWays_64 (by omega) (db64 (by omega)) ?_
      refine r_lstore dX5_wrongWays_65 rfl (by decide) sl6 ?_
      refine r_iinc dX5_wrongWays_67 rfl rfl (by decide) (w32_id (by omega)) st8 ?_
      refine r_goto (tgt := 9) dX5_wrongWays_70 (by decide) ?_
      first | (rw [et (by omega), h3] at ih9; exact ih9) | (rw [ef (by omega)] at ih9; exact ih9)
    · refine r_lload dX5_wrongWays_21 rfl ?_
      refine r_lload dX5_wrongWays_23 rfl ?_
      refine r_aload_n dX5_wrongWays_25 rfl (by decide) ?_
      refine r_iload_n dX5_wrongWays_26 rfl ?_
      refine r_i2l dX5_wrongWays_27 ?_
      refine r_iload dX5_wrongWays_28 rfl ?_
      refine r_cv2 dX5_wrongWays_30 clX5_109 sf12 (by decide) (by decide) rfl (by first | decide | omega) (Nat.le_of_ble_eq_true rfl) ((c_powerC (n := j) (by omega) (by omega) (by omega))) ⟨Nat.zero_le _, Nat.zero_le _⟩ (fun _ => ?_)
      refine r_lmul dX5_wrongWays_33 (w64_id (by omega)) ?_
      refine r_aload_n dX5_wrongWays_34 rfl (by decide) ?_
      refine r_bipush dX5_wrongWays_35 (by decide) (by decide) ?_
      refine r_iload_n dX5_wrongWays_37 rfl ?_
      refine r_isub dX5_wrongWays_38 (w32_id (by omega)) ?_
      refine r_i2l dX5_wrongWays_39 ?_
      refine r_iload_n dX5_wrongWays_40 rfl ?_
      refine r_iload dX5_wrongWays_41 rfl ?_
      refine r_isub dX5_wrongWays_43 (show _ = ((n - j : Nat) : Int) from by rw [ej]; exact w32_id (by omega)) ?_
      refine r_cv2 dX5_wrongWays_44 clX5_109 sf12 (by decide) (by decide) rfl (by first | decide | omega) (Nat.le_of_ble_eq_true rfl) ((c_powerC (n := n - j) (by omega) (by omega) (by omega))) ⟨Nat.zero_le _, Nat.zero_le _⟩ (fun _ => ?_)
      refine r_lmul dX5_wrongWays_47 (w64_id (by rw [← h3]; have := hle (by omega); omega)) ?_
      refine r_ladd dX5_wrongWays_48 (w64_id (by rw [← h3]; have := hle (by omega); omega)) ?_
      refine r_lstore dX5_wrongWays_49 rfl (by decide) sl4 ?_
      refine r_lload dX5_wrongWays_51 rfl ?_
      refine r_iload_n dX5_wrongWays_53 rfl ?_
      refine r_iload dX5_wrongWays_54 rfl ?_
      refine r_isub dX5_wrongWays_56 (w32_id (by omega)) ?_
      refine r_i2l dX5_wrongWays_57 ?_
      refine r_lmul dX5_wrongWays_58 (w64_id (by omega)) ?_
      refine r_iload dX5_wrongWays_59 rfl ?_
      refine r_iconst dX5_wrongWays_61 (by decide) ?_
      refine r_iadd dX5_wrongWays_62 (w32_id (by omega)) ?_
      refine r_i2l dX5_wrongWays_63 ?_
      refine r_ldiv dX5_wrongWays_64 (by omega) (db64 (by omega)) ?_
      refine r_lstore dX5_wrongWays_65 rfl (by decide) sl6 ?_
      refine r_iinc dX5_wrongWays_67 rfl rfl (by decide) (w32_id (by omega)) st8 ?_
      refine r_goto (tgt := 9) dX5_wrongWays_70 (by decide) ?_
      first | (rw [et (by omega), h3] at ih9; exact ih9) | (rw [ef (by omega)] at ih9; exact ih9)
theorem c_wrongWays {x y z : Int} {M : Me} {n p l : Nat} (hn : n ≤ 9) (hp : p ≤ 100) : Con kX5_wrongWays 1 0 0 [(1, 12), (0, (n : Int)), (0, (l : Int)), (0, (p : Int))] (Sf x y z) M (Ex (some (2, wrS n p l (n + 1 - l))) (Sf x y z) M) := by
  refine Con.ofV (al := [(1, 12), (0, (n : Int)), (0, (l : Int)), (0, (p : Int)), (9, 0), (9, 0), (9, 0), (9, 0), (9, 0)]) 5 (by decide) (Nat.le_of_ble_eq_true rfl) rfl ?_
  refine r_lconst (x := 0) dX5_wrongWays_0 rfl (by decide) ?_
  refine r_lstore dX5_wrongWays_1 rfl (by decide) sl4 ?_
  refine r_lconst (x := 1) dX5_wrongWays_3 rfl (by decide) ?_
  refine r_lstore dX5_wrongWays_4 rfl (by decide) sl6 ?_
  refine r_iconst dX5_wrongWays_6 (by decide) ?_
  refine r_istore dX5_wrongWays_7 rfl (by decide) st8 ?_
  exact V.al (by rw [show 0 - l = 0 by omega]; rfl) (l_wrongWays hn hp (n + 1) 0 (by omega))
theorem mod_half {b r : Int} (hr : 0 < r) (h : r < b) : 2 * (b % r) < b := by
  have h1 := Int.emod_lt_of_pos b hr
  have h2 := Int.emod_nonneg b (show r ≠ 0 by omega)
  have h3 := Int.mul_ediv_add_emod b r
  have h4 : 1 ≤ b / r := (Int.le_ediv_iff_mul_le hr).mpr (by omega)
  have h5 : r * 1 ≤ r * (b / r) := Int.mul_le_mul_of_nonneg_left h4 (by omega)
  omega
def tw2 : Nat → Int
  | 0 => 1
  | g + 1 => 2 * tw2 g
theorem tw2_60 : tw2 60 = 1152921504606846976 := by decide +kernel
theorem wkL6 {a0 a1 a2 a3 v : AV} {k : MI} {c1 c2 dd : Nat} {xs : Option (List Int)} {Q : Option AV → Sh → Me → Prop} {pc : Nat} {st : List AV} {S : Sh} {M : Me} {n1 n2 : Nat} {b1 b2 : AV} (k9 : V k c1 c2 dd xs Q pc [a0, a1, b1, a2, b2, a3, (9, 0), (9, 0)] st S M n1 n2) : V k c1 c2 dd xs Q pc [a0, a1, b1, a2, b2, a3, v, (9, 0)] st S M n1 n2 := V.wkp [a0, a1, b1, a2, b2, a3] [(9, 0)] v k9
theorem l_commonC {S : Sh} {M : Me} : ∀ (g : Nat) (j : Nat) (u v G : Int), j + 2 * g < 1000 → 0 ≤ v → 0 ≤ u → v < tw2 g → (Nat.gcd u.toNat v.toNat : Int) = G → V kX5_commonPart 0 0 0 none (Ex (some (2, G)) S M) 3 [(1, 12), (2, u), (9, 0), (2, v), (9, 0), (0, (j : Int)), (9, 0), (9, 0)] [] S M 0 0 := by
  intro g
  induction g with
  | zero =>
    intro j u v G hj h1 h3 hv hG
    have hv : v < 1 := hv
    refine r_iload dX5_commonPart_3 rfl ?_
    refine r_sipush dX5_commonPart_5 (by decide) (by decide) ?_
    refine r_icmp_ge (tgt := 33) dX5_commonPart_8 (by decide) (fun h8 => by exfalso; omega) (fun h8 => ?_)
    refine r_lload_n dX5_commonPart_11 rfl ?_
    refine r_lconst (x := 0) dX5_commonPart_12 rfl (by decide) ?_
    refine r_lcmp dX5_commonPart_13 ?_
    refine r_if_eq (tgt := 33) dX5_commonPart_14 (by decide) (fun h14 => ?_) (fun h14 => by exfalso; replace h14 := lc_ne.mp h14; omega)
    replace h14 := lc_eq.mp h14
    refine r_lload_n dX5_commonPart_33 rfl ?_
    refine r_lret dX5_commonPart_34 rfl ?_
    exact ⟨by rw [← hG, show v = 0 by omega]; exact congrArg (fun z => some (2, z)) (by rw [show (0 : Int).toNat = 0 from rfl, Nat.gcd_zero_right]; omega), rfl, rfl⟩
  | succ g ih =>
    intro j u v G hj h1 h3 hv hG
    have hv : v < 2 * tw2 g := hv
    have hgr : ∀ a b : Int, 0 ≤ a → 0 ≤ b → (Nat.gcd b.toNat (a % b).toNat : Int) = (Nat.gcd a.toNat b.toNat : Int) := fun a b ha hb => by
      rw [show (a % b).toNat = a.toNat % b.toNat by rw [← Int.toNat_emod ha hb], Nat.gcd_comm a.toNat b.toNat]
      exact congrArg _ ((Nat.gcd_comm _ _).trans (Nat.gcd_rec b.toNat a.toNat).symm)
    refine r_iload dX5_commonPart_3 rfl ?_
    refine r_sipush dX5_commonPart_5 (by decide) (by decide) ?_
    refine r_icmp_ge (tgt := 33) dX5_commonPart_8 (by decide) (fun h8 => by exfalso; omega) (fun h8 => ?_)
    refine r_lload_n dX5_commonPart_11 rfl ?_
    refine r_lconst (x := 0) dX5_commonPart_12 rfl (by decide) ?_
    refine r_lcmp dX5_commonPart_13 ?_
    refine r_if_eq (tgt := 33) dX5_commonPart_14 (by decide) (fun h14 => ?_) (fun h14 => ?_)
    · replace h14 := lc_eq.mp h14
      refine r_lload_n dX5_commonPart_33 rfl ?_
      refine r_lret dX5_commonPart_34 rfl ?_
      exact ⟨by rw [← hG, show v = 0 by omega]; exact congrArg (fun z => some (2, z)) (by rw [show (0 : Int).toNat = 0 from rfl, Nat.gcd_zero_right]; omega), rfl, rfl⟩
    · replace h14 := lc_ne.mp h14
      refine r_lload_n dX5_commonPart_17 rfl ?_
      refine r_lload_n dX5_commonPart_18 rfl ?_
      refine r_lrem dX5_commonPart_19 (by omega) (rmn h3) ?_
      refine r_lstore dX5_commonPart_20 rfl (by decide) sl6 ?_
      refine r_lload_n dX5_commonPart_22 rfl ?_
      refine r_lstore_n dX5_commonPart_23 rfl (by decide) sl1 ?_
      refine r_lload dX5_commonPart_24 rfl ?_
      refine r_lstore_n dX5_commonPart_26 rfl (by decide) sl3 ?_
      refine r_iinc dX5_commonPart_27 rfl rfl (by decide) (w32_id (by omega)) st5 ?_
      refine r_goto (tgt := 3) dX5_commonPart_30 (by decide) ?_
      refine wkL6 ?_
      have hv2 := Int.emod_lt_of_pos u (show 0 < v by omega)
      have hv3 := Int.emod_nonneg u (show v ≠ 0 by omega)
      refine r_iload dX5_commonPart_3 rfl ?_
      refine r_sipush dX5_commonPart_5 (by decide) (by decide) ?_
      refine r_icmp_ge (tgt := 33) dX5_commonPart_8 (by decide) (fun h8 => by exfalso; omega) (fun h8 => ?_)
      refine r_lload_n dX5_commonPart_11 rfl ?_
      refine r_lconst (x := 0) dX5_commonPart_12 rfl (by decide) ?_
      refine r_lcmp dX5_commonPart_13 ?_
      refine r_if_eq (tgt := 33) dX5_commonPart_14 (by decide) (fun h15 => ?_) (fun h15 => ?_)
      · replace h15 := lc_eq.mp h15
        refine r_lload_n dX5_commonPart_33 rfl ?_
        refine r_lret dX5_commonPart_34 rfl ?_
        exact ⟨by rw [← hG, ← hgr u v h3 h1, show u % v = 0 by omega]; exact congrArg (fun z => some (2, z)) (by rw [show (0 : Int).toNat = 0 from rfl, Nat.gcd_zero_right]; omega), rfl, rfl⟩
      · replace h15 := lc_ne.mp h15
        refine r_lload_n dX5_commonPart_17 rfl ?_
        refine r_lload_n dX5_commonPart_18 rfl ?_
        refine r_lrem dX5_commonPart_19 (by omega) (rmn (by omega)) ?_
        refine r_lstore dX5_commonPart_20 rfl (by decide) sl6 ?_
        refine r_lload_n dX5_commonPart_22 rfl ?_
        refine r_lstore_n dX5_commonPart_23 rfl (by decide) sl1 ?_
        refine r_lload dX5_commonPart_24 rfl ?_
        refine r_lstore_n dX5_commonPart_26 rfl (by decide) sl3 ?_
        refine r_iinc dX5_commonPart_27 rfl rfl (by decide) (w32_id (by omega)) st5 ?_
        refine r_goto (tgt := 3) dX5_commonPart_30 (by decide) ?_
        exact wkL6 (ih (j + 1 + 1) _ _ _ (by omega) (Int.emod_nonneg _ (by assumption)) (by omega) (by have := mod_half (b := v) (r := u % v) (by omega) (by omega); omega) (by rw [hgr v (u % v) (by omega) (by omega), hgr u v h3 h1]; exact hG))
theorem c_commonPart {S : Sh} {M : Me} {u v : Int} (hu : 0 ≤ u) (hv : 0 ≤ v ∧ v ≤ 1000000000000000000) : Con kX5_commonPart 0 0 0 [(1, 12), (2, u), (2, v)] S M (Ex (some (2, (Nat.gcd u.toNat v.toNat : Int))) S M) := by
  refine Con.ofV (al := [(1, 12), (2, u), (9, 0), (2, v), (9, 0), (9, 0), (9, 0), (9, 0)]) 3 (by decide) (Nat.le_of_ble_eq_true rfl) rfl ?_
  refine r_iconst dX5_commonPart_0 (by decide) ?_
  refine r_istore dX5_commonPart_1 rfl (by decide) st5 ?_
  exact l_commonC 60 0 u v _ (by omega) hv.1 hu (by rw [tw2_60]; omega) rfl
