/-- one round over the CREASES: what hangs on one of the set, too -/
def hp1 (T : Int → Int) (s : Int) : Nat → Int
  | 0 => s
  | c + 1 => or32 (hp1 T s c) (if and32 (T c) (hp1 T s c) ≠ 0 then shl32 1 c else 0)
theorem hp1_t {T : Int → Int} {s : Int} {c : Nat} (h : and32 (T c) (hp1 T s c) ≠ 0) : hp1 T s (c + 1) = or32 (hp1 T s c) (shl32 1 c) :=
  (show hp1 T s (c + 1) = or32 (hp1 T s c) (if and32 (T c) (hp1 T s c) ≠ 0 then shl32 1 c else 0) from rfl).trans (congrArg (or32 (hp1 T s c)) (if_pos h))
theorem hp1_f {T : Int → Int} {s : Int} {c : Nat} (h : ¬ and32 (T c) (hp1 T s c) ≠ 0) : hp1 T s (c + 1) = or32 (hp1 T s c) 0 :=
  (show hp1 T s (c + 1) = or32 (hp1 T s c) (if and32 (T c) (hp1 T s c) ≠ 0 then shl32 1 c else 0) from rfl).trans (congrArg (or32 (hp1 T s c)) (if_neg h))
def hk (T : Int → Int) (n : Nat) (s : Int) : Nat → Int
  | 0 => s
  | k + 1 => hp1 T (hk T n s k) n
/-- HANGING, by twelve rounds -/
def hangT (T : Int → Int) (n : Nat) (c : Int) : Int := hk T n (shl32 1 c) 12
def tiA (M : Me) : Int → Int := fun c => M 430 (15 + 7 * c + 6)
theorem l_hang1 {x y z : Int} {M : Me} {cr s : Int} {k : Nat} {n : Nat} (hn : M 430 14 = (n : Int)) (hn12 : n ≤ 12) {Q : Option AV → Sh → Me → Prop} (hk9 : k < 12) (hc : V kX11_hangingOn 0 0 1 none Q 6 [(1, 429), (0, cr), (0, hp1 (tiA M) s n), (0, (k : Int) + 1), (9, 0)] [] (Sf x y z) M 0 0) : ∀ (m i : Nat), m + i = n → V kX11_hangingOn 0 0 1 none Q 15 [(1, 429), (0, cr), (0, hp1 (tiA M) s i), (0, (k : Int)), (0, (i : Int))] [] (Sf x y z) M 0 0 := by
  intro m
  induction m with
  | zero =>
    intro i hi
    obtain rfl : i = n := by omega
    refine r_iload dX11_hangingOn_15 rfl ?_
    refine r_aload_n dX11_hangingOn_17 rfl (by decide) ?_
    refine r_getr (x := 430) dX11_hangingOn_18 flX11_7 sf429 (by decide) (by decide) rfl rfl ?_
    refine r_bipush dX11_hangingOn_21 (by decide) (by decide) ?_
    refine r_iald dX11_hangingOn_23 sf430 (by decide) (by omega) (by omega) (by decide) hn ?_
    refine r_icmp_ge (tgt := 57) dX11_hangingOn_24 (by decide) (fun h24 => ?_) (fun h24 => by exfalso; omega)
    refine r_iinc dX11_hangingOn_57 rfl rfl (by decide) (w32_id (by omega)) st3 ?_
    refine r_goto (tgt := 6) dX11_hangingOn_60 (by decide) ?_
    exact wk4 hc
  | succ m ih =>
    intro i hi
    refine r_iload dX11_hangingOn_15 rfl ?_
    refine r_aload_n dX11_hangingOn_17 rfl (by decide) ?_
    refine r_getr (x := 430) dX11_hangingOn_18 flX11_7 sf429 (by decide) (by decide) rfl rfl ?_
    refine r_bipush dX11_hangingOn_21 (by decide) (by decide) ?_
    refine r_iald dX11_hangingOn_23 sf430 (by decide) (by omega) (by omega) (by decide) hn ?_
    refine r_icmp_ge (tgt := 57) dX11_hangingOn_24 (by decide) (fun h24 => by exfalso; omega) (fun h24 => ?_)
    refine r_iload_n dX11_hangingOn_27 rfl ?_
    refine r_aload_n dX11_hangingOn_28 rfl (by decide) ?_
    refine r_iload dX11_hangingOn_29 rfl ?_
    refine r_bipush dX11_hangingOn_31 (by decide) (by decide) ?_
    refine r_cv2 dX11_hangingOn_33 clX11_66 sf429 (by decide) (by decide) rfl (by first | decide | omega) (Nat.le_of_ble_eq_true rfl) (c_get (by omega) (by decide)) ⟨Nat.zero_le _, Nat.zero_le _⟩ (fun _ => ?_)
    refine r_iload_n dX11_hangingOn_36 rfl ?_
    refine r_iand dX11_hangingOn_37 rfl ?_
    refine r_if_eq (tgt := 48) dX11_hangingOn_38 (by decide) (fun h38 => ?_) (fun h38 => ?_)
    · refine r_iconst dX11_hangingOn_48 (by decide) ?_
      refine r_ior dX11_hangingOn_49 rfl ?_
      refine r_istore_n dX11_hangingOn_50 rfl (by decide) st2 ?_
      refine r_iinc dX11_hangingOn_51 rfl rfl (by decide) (w32_id (by omega)) st4 ?_
      refine r_goto (tgt := 15) dX11_hangingOn_54 (by decide) ?_
      first | exact V.al (by rw [hp1_t (T := (tiA M)) (by assumption)]; rfl) (ih (i + 1) (by omega)) | exact V.al (by rw [hp1_f (T := (tiA M)) (Classical.not_not.mpr (by assumption))]; rfl) (ih (i + 1) (by omega))
    · refine r_iconst dX11_hangingOn_41 (by decide) ?_
      refine r_iload dX11_hangingOn_42 rfl ?_
      refine r_ishl dX11_hangingOn_44 rfl ?_
      refine r_goto (tgt := 49) dX11_hangingOn_45 (by decide) ?_
      refine r_ior dX11_hangingOn_49 rfl ?_
      refine r_istore_n dX11_hangingOn_50 rfl (by decide) st2 ?_
      refine r_iinc dX11_hangingOn_51 rfl rfl (by decide) (w32_id (by omega)) st4 ?_
      refine r_goto (tgt := 15) dX11_hangingOn_54 (by decide) ?_
      first | exact V.al (by rw [hp1_t (T := (tiA M)) (by assumption)]; rfl) (ih (i + 1) (by omega)) | exact V.al (by rw [hp1_f (T := (tiA M)) (Classical.not_not.mpr (by assumption))]; rfl) (ih (i + 1) (by omega))
theorem l_hang2 {x y z : Int} {M : Me} {cr : Int} {n : Nat} (hn : M 430 14 = (n : Int)) (hn12 : n ≤ 12) : ∀ (m k : Nat), m + k = 12 → V kX11_hangingOn 0 0 1 none (Ex (some (0, hangT (tiA M) n cr)) (Sf x y z) M) 6 [(1, 429), (0, cr), (0, hk (tiA M) n (shl32 1 cr) k), (0, (k : Int)), (9, 0)] [] (Sf x y z) M 0 0 := by
  intro m
  induction m with
  | zero =>
    intro i hi
    obtain rfl : i = 12 := by omega
    refine r_iload_n dX11_hangingOn_6 rfl ?_
    refine r_bipush dX11_hangingOn_7 (by decide) (by decide) ?_
    refine r_icmp_ge (tgt := 63) dX11_hangingOn_9 (by decide) (fun h9 => ?_) (fun h9 => by exfalso; omega)
    refine r_iload_n dX11_hangingOn_63 rfl ?_
    refine r_iret dX11_hangingOn_64 rfl ?_
    exact Ex.rf
  | succ m ih =>
    intro i hi
    refine r_iload_n dX11_hangingOn_6 rfl ?_
    refine r_bipush dX11_hangingOn_7 (by decide) (by decide) ?_
    refine r_icmp_ge (tgt := 63) dX11_hangingOn_9 (by decide) (fun h9 => by exfalso; omega) (fun h9 => ?_)
    refine r_iconst dX11_hangingOn_12 (by decide) ?_
    refine r_istore dX11_hangingOn_13 rfl (by decide) st4 ?_
    exact l_hang1 hn hn12 (by omega) (ih (i + 1) (by omega)) n 0 (by omega)
theorem m_hangingOn {x y z : Int} {M : Me} {cr : Int} {n : Nat} (hn : M 430 14 = (n : Int)) (hn12 : n ≤ 12) : Con kX11_hangingOn 1 0 0 [(1, 429), (0, cr)] (Sf x y z) M (Ex (some (0, hangT (tiA M) n cr)) (Sf x y z) M) := by
  refine Con.ofV (al := [(1, 429), (0, cr), (9, 0), (9, 0), (9, 0)]) 3 (by decide) (Nat.le_of_ble_eq_true rfl) rfl ?_
  refine r_iconst dX11_hangingOn_0 (by decide) ?_
  refine r_iload_n dX11_hangingOn_1 rfl ?_
  refine r_ishl dX11_hangingOn_2 rfl ?_
  refine r_istore_n dX11_hangingOn_3 rfl (by decide) st2 ?_
  refine r_iconst dX11_hangingOn_4 (by decide) ?_
  refine r_istore_n dX11_hangingOn_5 rfl (by decide) st3 ?_
  exact l_hang2 hn hn12 12 0 (by omega)
theorem m_hanging {x y z : Int} {M : Me} {c : Int} (h14 : 0 ≤ M 430 14 ∧ M 430 14 ≤ 12) {n : Nat} (hn : M 430 14 = (n : Int)) (hn12 : n ≤ 12) : Con kX11_hanging 2 0 0 [(1, 429), (0, c)] (Sf x y z) M (fun v9 S9 M9 => S9 = (Sf x y z) ∧ ((0 ≤ c ∧ c ≤ M 430 14 - 1) ∧ v9 = some (0, hangT (tiA M) n c) ∧ M9 = M ∨ (¬ (0 ≤ c ∧ c ≤ M 430 14 - 1)) ∧ v9 = some (0, -1) ∧ M9 = M)) := by
  refine Con.ofV (al := [(1, 429), (0, c)]) 0 (by decide) (Nat.le_of_ble_eq_true rfl) rfl ?_
  refine r_aload_n dX11_hanging_0 rfl (by decide) ?_
  refine r_iload_n dX11_hanging_1 rfl ?_
  refine r_cv1 dX11_hanging_2 clX11_81 sf429 (by decide) (by decide) rfl (by first | decide | omega) (Nat.le_of_ble_eq_true rfl) (m_isCrease h14) ⟨Nat.zero_le _, Nat.zero_le _⟩ (fun _ => ?_)
  refine r_if_eq (tgt := 16) dX11_hanging_5 (by decide) (fun h5 => ?_) (fun h5 => ?_)
  · try have h5 := bi_0.mp h5
    refine r_iconst dX11_hanging_16 (by decide) ?_
    refine r_iret dX11_hanging_17 rfl ?_
    first | exact ⟨rfl, Or.inl ⟨by omega, rfl, rfl⟩⟩ | exact ⟨rfl, Or.inr (⟨by omega, rfl, rfl⟩)⟩
  · try have h5 := bi_1.mp h5
    refine r_aload_n dX11_hanging_8 rfl (by decide) ?_
    refine r_iload_n dX11_hanging_9 rfl ?_
    refine r_cv1 dX11_hanging_10 clX11_299 sf429 (by decide) (by decide) rfl (by first | decide | omega) (Nat.le_of_ble_eq_true rfl) (m_hangingOn hn hn12) ⟨Nat.zero_le _, Nat.zero_le _⟩ (fun _ => ?_)
    refine r_goto (tgt := 17) dX11_hanging_13 (by decide) ?_
    refine r_iret dX11_hanging_17 rfl ?_
    first | exact ⟨rfl, Or.inl ⟨by omega, rfl, rfl⟩⟩ | exact ⟨rfl, Or.inr (⟨by omega, rfl, rfl⟩)⟩
def wtA (M : Me) (g : Int) : Nat → Int
  | 0 => 0
  | k + 1 => or32 (and32 (wtA M g k) (xor32 (shl32 1 (M 430 (114 + 2 * (k : Int)))) (-1))) (if M 430 (114 + 2 * (k : Int) + 1) = g then shl32 1 (M 430 (114 + 2 * (k : Int))) else 0)
theorem wtA_t {M : Me} {g : Int} {k : Nat} (h : M 430 (114 + 2 * (k : Int) + 1) = g) : wtA M g (k + 1) = or32 (and32 (wtA M g k) (xor32 (shl32 1 (M 430 (114 + 2 * (k : Int)))) (-1))) (shl32 1 (M 430 (114 + 2 * (k : Int)))) :=
  (show wtA M g (k + 1) = or32 (and32 (wtA M g k) (xor32 (shl32 1 (M 430 (114 + 2 * (k : Int)))) (-1))) (if M 430 (114 + 2 * (k : Int) + 1) = g then shl32 1 (M 430 (114 + 2 * (k : Int))) else 0) from rfl).trans (congrArg (or32 (and32 (wtA M g k) (xor32 (shl32 1 (M 430 (114 + 2 * (k : Int)))) (-1)))) (if_pos h))
theorem wtA_f {M : Me} {g : Int} {k : Nat} (h : ¬ M 430 (114 + 2 * (k : Int) + 1) = g) : wtA M g (k + 1) = or32 (and32 (wtA M g k) (xor32 (shl32 1 (M 430 (114 + 2 * (k : Int)))) (-1))) 0 :=
  (show wtA M g (k + 1) = or32 (and32 (wtA M g k) (xor32 (shl32 1 (M 430 (114 + 2 * (k : Int)))) (-1))) (if M 430 (114 + 2 * (k : Int) + 1) = g then shl32 1 (M 430 (114 + 2 * (k : Int))) else 0) from rfl).trans (congrArg (or32 (and32 (wtA M g k) (xor32 (shl32 1 (M 430 (114 + 2 * (k : Int)))) (-1)))) (if_neg h))
theorem l_wanted {x y z : Int} {M : Me} {g : Int} {n : Nat} (hn : M 430 4 = (n : Int)) (hn8 : n ≤ 8) : ∀ (m i : Nat), m + i = n → V kX11_wanted 0 0 0 none (Ex (some (0, wtA M g n)) (Sf x y z) M) 4 [(1, 429), (0, g), (0, wtA M g i), (0, (i : Int))] [] (Sf x y z) M 0 0 := by
  intro m
  induction m with
  | zero =>
    intro i hi
    obtain rfl : i = n := by omega
    refine r_iload_n dX11_wanted_4 rfl ?_
    refine r_aload_n dX11_wanted_5 rfl (by decide) ?_
    refine r_getr (x := 430) dX11_wanted_6 flX11_7 sf429 (by decide) (by decide) rfl rfl ?_
    refine r_iconst dX11_wanted_9 (by decide) ?_
    refine r_iald dX11_wanted_10 sf430 (by decide) (by omega) (by omega) (by decide) hn ?_
    refine r_icmp_ge (tgt := 75) dX11_wanted_11 (by decide) (fun h11 => ?_) (fun h11 => by exfalso; omega)
    refine r_iload_n dX11_wanted_75 rfl ?_
    refine r_iret dX11_wanted_76 rfl ?_
    exact Ex.rf
  | succ m ih =>
    intro i hi
    refine r_iload_n dX11_wanted_4 rfl ?_
    refine r_aload_n dX11_wanted_5 rfl (by decide) ?_
    refine r_getr (x := 430) dX11_wanted_6 flX11_7 sf429 (by decide) (by decide) rfl rfl ?_
    refine r_iconst dX11_wanted_9 (by decide) ?_
    refine r_iald dX11_wanted_10 sf430 (by decide) (by omega) (by omega) (by decide) hn ?_
    refine r_icmp_ge (tgt := 75) dX11_wanted_11 (by decide) (fun h11 => by exfalso; omega) (fun h11 => ?_)
    refine r_iload_n dX11_wanted_14 rfl ?_
    refine r_iconst dX11_wanted_15 (by decide) ?_
    refine r_aload_n dX11_wanted_16 rfl (by decide) ?_
    refine r_getr (x := 430) dX11_wanted_17 flX11_7 sf429 (by decide) (by decide) rfl rfl ?_
    refine r_bipush dX11_wanted_20 (by decide) (by decide) ?_
    refine r_iconst dX11_wanted_22 (by decide) ?_
    refine r_iload_n dX11_wanted_23 rfl ?_
    refine r_imul dX11_wanted_24 (w32_id (by omega)) ?_
    refine r_iadd dX11_wanted_25 (w32_id (by omega)) ?_
    refine r_iald dX11_wanted_26 sf430 (by decide) (by omega) (by omega) (by decide) (by first | assumption | ((repeat (first | (apply rd_ne; · omega) | (apply rd_eq; · omega) | (apply rd_out; · omega) | (apply rd_in; · omega))); first | assumption | rfl)) ?_
    refine r_ishl dX11_wanted_27 rfl ?_
    refine r_iconst dX11_wanted_28 (by decide) ?_
    refine r_ixor dX11_wanted_29 rfl ?_
    refine r_iand dX11_wanted_30 rfl ?_
    refine r_istore_n dX11_wanted_31 rfl (by decide) st2 ?_
    refine r_iload_n dX11_wanted_32 rfl ?_
    refine r_aload_n dX11_wanted_33 rfl (by decide) ?_
    refine r_getr (x := 430) dX11_wanted_34 flX11_7 sf429 (by decide) (by decide) rfl rfl ?_
    refine r_bipush dX11_wanted_37 (by decide) (by decide) ?_
    refine r_iconst dX11_wanted_39 (by decide) ?_
    refine r_iload_n dX11_wanted_40 rfl ?_
    refine r_imul dX11_wanted_41 (w32_id (by omega)) ?_
    refine r_iadd dX11_wanted_42 (w32_id (by omega)) ?_
    refine r_iconst dX11_wanted_43 (by decide) ?_
    refine r_iadd dX11_wanted_44 (w32_id (by omega)) ?_
    refine r_iald dX11_wanted_45 sf430 (by decide) (by omega) (by omega) (by decide) (by first | assumption | ((repeat (first | (apply rd_ne; · omega) | (apply rd_eq; · omega) | (apply rd_out; · omega) | (apply rd_in; · omega))); first | assumption | rfl)) ?_
    refine r_iload_n dX11_wanted_46 rfl ?_
    refine r_icmp_ne (tgt := 66) dX11_wanted_47 (by decide) (fun h47 => ?_) (fun h47 => ?_)
    · refine r_iconst dX11_wanted_66 (by decide) ?_
      refine r_ior dX11_wanted_67 rfl ?_
      refine r_istore_n dX11_wanted_68 rfl (by decide) st2 ?_
      refine r_iinc dX11_wanted_69 rfl rfl (by decide) (w32_id (by omega)) st3 ?_
      refine r_goto (tgt := 4) dX11_wanted_72 (by decide) ?_
      first | exact V.al (by rw [wtA_t (by assumption)]; rfl) (ih (i + 1) (by omega)) | exact V.al (by rw [wtA_f (by assumption)]; rfl) (ih (i + 1) (by omega))
    · refine r_iconst dX11_wanted_50 (by decide) ?_
      refine r_aload_n dX11_wanted_51 rfl (by decide) ?_
      refine r_getr (x := 430) dX11_wanted_52 flX11_7 sf429 (by decide) (by decide) rfl rfl ?_
      refine r_bipush dX11_wanted_55 (by decide) (by decide) ?_
      refine r_iconst dX11_wanted_57 (by decide) ?_
      refine r_iload_n dX11_wanted_58 rfl ?_
      refine r_imul dX11_wanted_59 (w32_id (by omega)) ?_
      refine r_iadd dX11_wanted_60 (w32_id (by omega)) ?_
      refine r_iald dX11_wanted_61 sf430 (by decide) (by omega) (by omega) (by decide) (by first | assumption | ((repeat (first | (apply rd_ne; · omega) | (apply rd_eq; · omega) | (apply rd_out; · omega) | (apply rd_in; · omega))); first | assumption | rfl)) ?_
      refine r_ishl dX11_wanted_62 rfl ?_
      refine r_goto (tgt := 67) dX11_wanted_63 (by decide) ?_
      refine r_ior dX11_wanted_67 rfl ?_
      refine r_istore_n dX11_wanted_68 rfl (by decide) st2 ?_
      refine r_iinc dX11_wanted_69 rfl rfl (by decide) (w32_id (by omega)) st3 ?_
      refine r_goto (tgt := 4) dX11_wanted_72 (by decide) ?_
      first | exact V.al (by rw [wtA_t (by assumption)]; rfl) (ih (i + 1) (by omega)) | exact V.al (by rw [wtA_f (by assumption)]; rfl) (ih (i + 1) (by omega))
theorem m_wanted {x y z : Int} {M : Me} {g : Int} {n : Nat} (hn : M 430 4 = (n : Int)) (hn8 : n ≤ 8) : Con kX11_wanted 0 0 0 [(1, 429), (0, g)] (Sf x y z) M (Ex (some (0, wtA M g n)) (Sf x y z) M) := by
  refine Con.ofV (al := [(1, 429), (0, g), (9, 0), (9, 0)]) 2 (by decide) (Nat.le_of_ble_eq_true rfl) rfl ?_
  refine r_iconst dX11_wanted_0 (by decide) ?_
  refine r_istore_n dX11_wanted_1 rfl (by decide) st2 ?_
  refine r_iconst dX11_wanted_2 (by decide) ?_
  refine r_istore_n dX11_wanted_3 rfl (by decide) st3 ?_
  exact l_wanted hn hn8 n 0 (by omega)
/-- a set is whole: what hangs on one of it and is there, is in it -/
def clo (Hg : Int → Int) (t s : Int) (n : Nat) : Prop := ∀ c : Nat, c < n → and32 (shr32 s c) 1 = 1 → and32 (and32 (Hg c) t) (xor32 s (-1)) = 0
theorem clo_s {Hg : Int → Int} {t s : Int} {n : Nat} (h : clo Hg t s n) (h2 : and32 (shr32 s n) 1 = 1 → and32 (and32 (Hg n) t) (xor32 s (-1)) = 0) : clo Hg t s (n + 1) := by
  intro c hc h3
  by_cases e : c = n
  · subst e; exact h2 h3
  · exact h c (by omega) h3
theorem l_isClosed {x y z : Int} {M : Me} {s : Int} {n : Nat} (hn : M 430 14 = (n : Int)) (hn12 : n ≤ 12) : ∀ (m i : Nat), m + i = n → clo (hangT (tiA M) n) (bset (fun c : Int => M 430 (15 + 7 * c + 1) = 0) (fun c => c) n) s i → V kX11_isClosed 0 0 3 none (fun v9 S9 M9 => S9 = (Sf x y z) ∧ M9 = M ∧ (clo (hangT (tiA M) n) (bset (fun c : Int => M 430 (15 + 7 * c + 1) = 0) (fun c => c) n) s n ∧ v9 = some (0, 1) ∨ ¬ clo (hangT (tiA M) n) (bset (fun c : Int => M 430 (15 + 7 * c + 1) = 0) (fun c => c) n) s n ∧ v9 = some (0, 0))) 2 [(1, 429), (0, s), (0, (i : Int))] [] (Sf x y z) M 0 0 := by
  intro m
  induction m with
  | zero =>
    intro i hi hq
    obtain rfl : i = n := by omega
    refine r_iload_n dX11_isClosed_2 rfl ?_
    refine r_aload_n dX11_isClosed_3 rfl (by decide) ?_
    refine r_getr (x := 430) dX11_isClosed_4 flX11_7 sf429 (by decide) (by decide) rfl rfl ?_
    refine r_bipush dX11_isClosed_7 (by decide) (by decide) ?_
    refine r_iald dX11_isClosed_9 sf430 (by decide) (by omega) (by omega) (by decide) hn ?_
    refine r_icmp_ge (tgt := 46) dX11_isClosed_10 (by decide) (fun h10 => ?_) (fun h10 => by exfalso; omega)
    refine r_iconst dX11_isClosed_46 (by decide) ?_
    refine r_zret dX11_isClosed_47 rfl (by omega) ?_
    first | exact ⟨rfl, rfl, Or.inl ⟨hq, rfl⟩⟩ | exact ⟨rfl, rfl, Or.inr ⟨fun q => absurd (q i (by omega) (by assumption)) (by assumption), rfl⟩⟩
  | succ m ih =>
    intro i hi hq
    refine r_iload_n dX11_isClosed_2 rfl ?_
    refine r_aload_n dX11_isClosed_3 rfl (by decide) ?_
    refine r_getr (x := 430) dX11_isClosed_4 flX11_7 sf429 (by decide) (by decide) rfl rfl ?_
    refine r_bipush dX11_isClosed_7 (by decide) (by decide) ?_
    refine r_iald dX11_isClosed_9 sf430 (by decide) (by omega) (by omega) (by decide) hn ?_
    refine r_icmp_ge (tgt := 46) dX11_isClosed_10 (by decide) (fun h10 => by exfalso; omega) (fun h10 => ?_)
    refine r_iload_n dX11_isClosed_13 rfl ?_
    refine r_iload_n dX11_isClosed_14 rfl ?_
    refine r_cs2 dX11_isClosed_15 clX11_84 (by first | decide | omega) (Nat.le_of_ble_eq_true rfl) (c_has) ⟨Nat.zero_le _, Nat.zero_le _⟩ (fun _ => ?_)
    refine r_if_eq (tgt := 40) dX11_isClosed_18 (by decide) (fun h18 => ?_) (fun h18 => ?_)
    · try have h18 := bi_0.mp h18
      refine r_iinc dX11_isClosed_40 rfl rfl (by decide) (w32_id (by omega)) st2 ?_
      refine r_goto (tgt := 2) dX11_isClosed_43 (by decide) ?_
      first | exact ih (i + 1) (by omega) (clo_s hq (fun _ => by assumption)) | exact ih (i + 1) (by omega) (clo_s hq (fun q => absurd q (by assumption)))
    · try have h18 := bi_1.mp h18
      refine r_aload_n dX11_isClosed_21 rfl (by decide) ?_
      refine r_iload_n dX11_isClosed_22 rfl ?_
      refine r_cv1 dX11_isClosed_23 clX11_299 sf429 (by decide) (by decide) rfl (by first | decide | omega) (Nat.le_of_ble_eq_true rfl) (m_hangingOn hn hn12) ⟨Nat.zero_le _, Nat.zero_le _⟩ (fun _ => ?_)
      refine r_aload_n dX11_isClosed_26 rfl (by decide) ?_
      refine r_cv0 dX11_isClosed_27 clX11_336 sf429 (by decide) (by decide) rfl (by first | decide | omega) (Nat.le_of_ble_eq_true rfl) (c_there hn hn12) ⟨Nat.zero_le _, Nat.zero_le _⟩ (fun _ => ?_)
      refine r_iand dX11_isClosed_30 rfl ?_
      refine r_iload_n dX11_isClosed_31 rfl ?_
      refine r_iconst dX11_isClosed_32 (by decide) ?_
      refine r_ixor dX11_isClosed_33 rfl ?_
      refine r_iand dX11_isClosed_34 rfl ?_
      refine r_if_eq (tgt := 40) dX11_isClosed_35 (by decide) (fun h35 => ?_) (fun h35 => ?_)
      · refine r_iinc dX11_isClosed_40 rfl rfl (by decide) (w32_id (by omega)) st2 ?_
        refine r_goto (tgt := 2) dX11_isClosed_43 (by decide) ?_
        first | exact ih (i + 1) (by omega) (clo_s hq (fun _ => by assumption)) | exact ih (i + 1) (by omega) (clo_s hq (fun q => absurd q (by assumption)))
      · refine r_iconst dX11_isClosed_38 (by decide) ?_
        refine r_zret dX11_isClosed_39 rfl (by omega) ?_
        first | exact ⟨rfl, rfl, Or.inl ⟨hq, rfl⟩⟩ | exact ⟨rfl, rfl, Or.inr ⟨fun q => absurd (q i (by omega) (by assumption)) (by assumption), rfl⟩⟩
theorem m_isClosed {x y z : Int} {M : Me} {s : Int} {n : Nat} (hn : M 430 14 = (n : Int)) (hn12 : n ≤ 12) : Con kX11_isClosed 3 0 0 [(1, 429), (0, s)] (Sf x y z) M (fun v9 S9 M9 => S9 = (Sf x y z) ∧ M9 = M ∧ (clo (hangT (tiA M) n) (bset (fun c : Int => M 430 (15 + 7 * c + 1) = 0) (fun c => c) n) s n ∧ v9 = some (0, 1) ∨ ¬ clo (hangT (tiA M) n) (bset (fun c : Int => M 430 (15 + 7 * c + 1) = 0) (fun c => c) n) s n ∧ v9 = some (0, 0))) := by
  refine Con.ofV (al := [(1, 429), (0, s), (9, 0)]) 1 (by decide) (Nat.le_of_ble_eq_true rfl) rfl ?_
  refine r_iconst dX11_isClosed_0 (by decide) ?_
  refine r_istore_n dX11_isClosed_1 rfl (by decide) st2 ?_
  exact l_isClosed hn hn12 n 0 (by omega) (fun c hc => absurd hc (by omega))
theorem l_copy_ai {x y z : Int} {M : Me} {n : Nat} (hn : n = 2142) : ∀ (m i : Nat), m + i = n → V kX11_copy 0 0 0 none (Ex none (Sf x y z) (cpy M 430 0 431 0 2142)) 2 [(1, 430), (1, 431), (0, (i : Int))] [] (Sf x y z) (cpy M 430 0 431 0 (i : Int)) 0 0 := by
  intro m
  induction m with
  | zero =>
    intro i hi
    obtain rfl : i = n := by omega
    refine r_iload_n dX11_copy_2 rfl ?_
    refine r_sipush dX11_copy_3 (by decide) (by decide) ?_
    refine r_icmp_ge (tgt := 21) dX11_copy_6 (by decide) (fun h6 => ?_) (fun h6 => by exfalso; omega)
    refine r_ret0 dX11_copy_21 rfl ?_
    exact ⟨rfl, rfl, by rw [hn]; rfl⟩
  | succ m ih =>
    intro i hi
    refine r_iload_n dX11_copy_2 rfl ?_
    refine r_sipush dX11_copy_3 (by decide) (by decide) ?_
    refine r_icmp_ge (tgt := 21) dX11_copy_6 (by decide) (fun h6 => by exfalso; omega) (fun h6 => ?_)
    refine r_aload_n dX11_copy_9 rfl (by decide) ?_
    refine r_iload_n dX11_copy_10 rfl ?_
    refine r_aload_n dX11_copy_11 rfl (by decide) ?_
    refine r_iload_n dX11_copy_12 rfl ?_
    refine r_iald dX11_copy_13 sf430 (by decide) (by omega) (by omega) (by decide) (by first | assumption | ((repeat (first | (apply rd_ne; · omega) | (apply rd_eq; · omega) | (apply rd_out; · omega) | (apply rd_in; · omega))); first | assumption | rfl)) ?_
    refine r_iast dX11_copy_14 sf431 (by decide) (by omega) (by omega) (by decide) rfl ?_
    refine r_iinc dX11_copy_15 rfl rfl (by decide) (w32_id (by omega)) st2 ?_
    refine r_goto (tgt := 2) dX11_copy_18 (by decide) ?_
    exact V.cm rfl ((cpyx_s (i : Int) (by omega) (by omega) (by congr 1; omega)).trans rfl) (ih (i + 1) (by omega))
theorem m_copy_ai {x y z : Int} {M : Me} : Con kX11_copy 0 0 0 [(1, 430), (1, 431)] (Sf x y z) M (Ex none (Sf x y z) (cpy M 430 0 431 0 2142)) := by
  refine Con.ofV (al := [(1, 430), (1, 431), (9, 0)]) 1 (by decide) (Nat.le_of_ble_eq_true rfl) rfl ?_
  refine r_iconst dX11_copy_0 (by decide) ?_
  refine r_istore_n dX11_copy_1 rfl (by decide) st2 ?_
  exact V.cm rfl cpy_0.symm (l_copy_ai rfl 2142 0 (by omega))
theorem l_copy_ia {x y z : Int} {M : Me} {n : Nat} (hn : n = 2142) : ∀ (m i : Nat), m + i = n → V kX11_copy 0 0 0 none (Ex none (Sf x y z) (cpy M 431 0 430 0 2142)) 2 [(1, 431), (1, 430), (0, (i : Int))] [] (Sf x y z) (cpy M 431 0 430 0 (i : Int)) 0 0 := by
  intro m
  induction m with
  | zero =>
    intro i hi
    obtain rfl : i = n := by omega
    refine r_iload_n dX11_copy_2 rfl ?_
    refine r_sipush dX11_copy_3 (by decide) (by decide) ?_
    refine r_icmp_ge (tgt := 21) dX11_copy_6 (by decide) (fun h6 => ?_) (fun h6 => by exfalso; omega)
    refine r_ret0 dX11_copy_21 rfl ?_
    exact ⟨rfl, rfl, by rw [hn]; rfl⟩
  | succ m ih =>
    intro i hi
    refine r_iload_n dX11_copy_2 rfl ?_
    refine r_sipush dX11_copy_3 (by decide) (by decide) ?_
    refine r_icmp_ge (tgt := 21) dX11_copy_6 (by decide) (fun h6 => by exfalso; omega) (fun h6 => ?_)
    refine r_aload_n dX11_copy_9 rfl (by decide) ?_
    refine r_iload_n dX11_copy_10 rfl ?_
    refine r_aload_n dX11_copy_11 rfl (by decide) ?_
    refine r_iload_n dX11_copy_12 rfl ?_
    refine r_iald dX11_copy_13 sf431 (by decide) (by omega) (by omega) (by decide) (by first | assumption | ((repeat (first | (apply rd_ne; · omega) | (apply rd_eq; · omega) | (apply rd_out; · omega) | (apply rd_in; · omega))); first | assumption | rfl)) ?_
    refine r_iast dX11_copy_14 sf430 (by decide) (by omega) (by omega) (by decide) rfl ?_
    refine r_iinc dX11_copy_15 rfl rfl (by decide) (w32_id (by omega)) st2 ?_
    refine r_goto (tgt := 2) dX11_copy_18 (by decide) ?_
    exact V.cm rfl ((cpyx_s (i : Int) (by omega) (by omega) (by congr 1; omega)).trans rfl) (ih (i + 1) (by omega))
theorem m_copy_ia {x y z : Int} {M : Me} : Con kX11_copy 0 0 0 [(1, 431), (1, 430)] (Sf x y z) M (Ex none (Sf x y z) (cpy M 431 0 430 0 2142)) := by
  refine Con.ofV (al := [(1, 431), (1, 430), (9, 0)]) 1 (by decide) (Nat.le_of_ble_eq_true rfl) rfl ?_
  refine r_iconst dX11_copy_0 (by decide) ?_
  refine r_istore_n dX11_copy_1 rfl (by decide) st2 ?_
  exact V.cm rfl cpy_0.symm (l_copy_ia rfl 2142 0 (by omega))
theorem m_image {x y z : Int} {M : Me} : Con kX11_image 1 0 0 [(1, 429)] (Sf x y z) M (Ex (some (0, M 430 10)) (Sf x y z) (cpy M 430 0 431 0 2142)) := by
  refine Con.ofV (al := [(1, 429)]) 0 (by decide) (Nat.le_of_ble_eq_true rfl) rfl ?_
  refine r_aload_n dX11_image_0 rfl (by decide) ?_
  refine r_getr (x := 430) dX11_image_1 flX11_7 sf429 (by decide) (by decide) rfl rfl ?_
  refine r_aload_n dX11_image_4 rfl (by decide) ?_
  refine r_getr (x := 431) dX11_image_5 flX11_13 sf429 (by decide) (by decide) rfl rfl ?_
  refine r_cu2 dX11_image_8 clX11_58 (by first | decide | omega) (Nat.le_of_ble_eq_true rfl) (m_copy_ai) ⟨Nat.zero_le _, Nat.zero_le _⟩ ?_
  refine r_aload_n dX11_image_11 rfl (by decide) ?_
  refine r_getr (x := 430) dX11_image_12 flX11_7 sf429 (by decide) (by decide) rfl rfl ?_
  refine r_bipush dX11_image_15 (by decide) (by decide) ?_
  refine r_iald dX11_image_17 sf430 (by decide) (by omega) (by omega) (by decide) (by first | assumption | ((repeat (first | (apply rd_ne; · omega) | (apply rd_eq; · omega) | (apply rd_out; · omega) | (apply rd_in; · omega))); first | assumption | rfl)) ?_
  refine r_iret dX11_image_18 rfl ?_
  exact Ex.rf
theorem m_back {x y z : Int} {M : Me} : Con kX11_back 1 0 0 [(1, 429)] (Sf x y z) M (Ex (some (0, M 431 10)) (Sf x y z) (cpy M 431 0 430 0 2142)) := by
  refine Con.ofV (al := [(1, 429)]) 0 (by decide) (Nat.le_of_ble_eq_true rfl) rfl ?_
  refine r_aload_n dX11_back_0 rfl (by decide) ?_
  refine r_getr (x := 431) dX11_back_1 flX11_13 sf429 (by decide) (by decide) rfl rfl ?_
  refine r_aload_n dX11_back_4 rfl (by decide) ?_
  refine r_getr (x := 430) dX11_back_5 flX11_7 sf429 (by decide) (by decide) rfl rfl ?_
  refine r_cu2 dX11_back_8 clX11_58 (by first | decide | omega) (Nat.le_of_ble_eq_true rfl) (m_copy_ia) ⟨Nat.zero_le _, Nat.zero_le _⟩ ?_
  refine r_aload_n dX11_back_11 rfl (by decide) ?_
  refine r_getr (x := 430) dX11_back_12 flX11_7 sf429 (by decide) (by decide) rfl rfl ?_
  refine r_bipush dX11_back_15 (by decide) (by decide) ?_
  refine r_iald dX11_back_17 sf430 (by decide) (by omega) (by omega) (by decide) (by first | assumption | ((repeat (first | (apply rd_ne; · omega) | (apply rd_eq; · omega) | (apply rd_out; · omega) | (apply rd_in; · omega))); first | assumption | rfl)) ?_
  refine r_iret dX11_back_18 rfl ?_
  exact ⟨by congr 3, rfl, rfl⟩
