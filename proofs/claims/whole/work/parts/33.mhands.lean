/-- the reference's memory behind hands: who has which board, and how much each has -/
def enM (M : Me) (X Y : Int → Int) : Me := fun a j => if a = 439 ∧ 0 ≤ j ∧ j < 8 then X j else if a = 438 ∧ 0 ≤ j ∧ j < 4 then Y j else M a j
theorem enM_o {M : Me} {X Y : Int → Int} {a j : Int} (h : ¬ (a = 439 ∧ 0 ≤ j ∧ j < 8) ∧ ¬ (a = 438 ∧ 0 ≤ j ∧ j < 4)) : enM M X Y a j = M a j := by unfold enM; rw [if_neg h.1, if_neg h.2]
theorem rd_e0 {M : Me} {X Y : Int → Int} {a j z : Int} (h : ¬ (a = 439 ∧ 0 ≤ j ∧ j < 8) ∧ ¬ (a = 438 ∧ 0 ≤ j ∧ j < 4)) (k : M a j = z) : enM M X Y a j = z := (enM_o h).trans k
theorem rd_eX {M : Me} {X Y : Int → Int} {a j z : Int} (h : a = 439 ∧ 0 ≤ j ∧ j < 8) (k : X j = z) : enM M X Y a j = z := by unfold enM; rw [if_pos h]; exact k
theorem rd_eY {M : Me} {X Y : Int → Int} {a j z : Int} (h : a = 438 ∧ 0 ≤ j ∧ j < 4) (k : Y j = z) : enM M X Y a j = z := by unfold enM; rw [if_neg (by omega), if_pos h]; exact k
theorem enM_row {M : Me} {X Y : Int → Int} : enM M X Y 430 = M 430 := by funext j; exact enM_o (by omega)
theorem enM_c {M N : Me} {X X' Y Y' : Int → Int} (hM : ∀ a j, ¬ (a = 439 ∧ 0 ≤ j ∧ j < 8) → ¬ (a = 438 ∧ 0 ≤ j ∧ j < 4) → M a j = N a j) (h : ∀ c, 0 ≤ c → c < 8 → X c = X' c) (h' : ∀ c, 0 ≤ c → c < 4 → Y c = Y' c) : enM M X Y = enM N X' Y' := by
  funext a j
  unfold enM
  by_cases h1 : a = 439 ∧ 0 ≤ j ∧ j < 8
  · rw [if_pos h1, if_pos h1, h j h1.2.1 h1.2.2]
  · rw [if_neg h1, if_neg h1]
    by_cases h3 : a = 438 ∧ 0 ≤ j ∧ j < 4
    · rw [if_pos h3, if_pos h3, h' j h3.2.1 h3.2.2]
    · rw [if_neg h3, if_neg h3]; exact hM a j h1 h3
theorem enM_id {M : Me} : M = enM M (fun c => M 439 c) (fun c => M 438 c) := by
  funext a j
  unfold enM
  split
  · rename_i h; rw [h.1]
  · split
    · rename_i h; rw [h.1]
    · rfl
theorem enM_Y {M : Me} {y v : Int} {X Y Y' : Int → Int} (hy : 0 ≤ y ∧ y < 4) (h : ∀ c, 0 ≤ c → c < 4 → Y' c = if c = y then v else Y c) : up (enM M X Y) 438 y v = enM M X Y' := by
  funext a j
  unfold up enM
  by_cases h1 : a = 438 ∧ j = y
  · rw [if_pos h1, if_neg (by omega), if_pos (by omega), h j (by omega) (by omega), if_pos h1.2]
  · rw [if_neg h1]
    by_cases h2 : a = 439 ∧ 0 ≤ j ∧ j < 8
    · rw [if_pos h2, if_pos h2]
    · rw [if_neg h2, if_neg h2]
      by_cases h3 : a = 438 ∧ 0 ≤ j ∧ j < 4
      · rw [if_pos h3, if_pos h3, h j h3.2.1 h3.2.2, if_neg (fun q => h1 ⟨h3.1, q⟩)]
      · rw [if_neg h3, if_neg h3]
theorem enM_X {M : Me} {y v : Int} {X Y X' : Int → Int} (hy : 0 ≤ y ∧ y < 8) (h : ∀ c, 0 ≤ c → c < 8 → X' c = if c = y then v else X c) : up (enM M X Y) 439 y v = enM M X' Y := by
  funext a j
  unfold up enM
  by_cases h1 : a = 439 ∧ j = y
  · rw [if_pos h1, if_pos (by omega), h j (by omega) (by omega), if_pos h1.2]
  · rw [if_neg h1]
    by_cases h2 : a = 439 ∧ 0 ≤ j ∧ j < 8
    · rw [if_pos h2, if_pos h2, h j h2.2.1 h2.2.2, if_neg (fun q => h1 ⟨h2.1, q⟩)]
    · rw [if_neg h2, if_neg h2]
/-- the code behind k boards; whose the board is; what each has behind k boards -/
def cdv (q b : Int) : Nat → Int
  | 0 => q
  | k + 1 => cdv q b k / b
def dig (q b : Int) (k : Nat) : Int := cdv q b k % b
def hX (n : Nat) (q b : Int) (X : Int → Int) (k : Nat) (i : Int) : Int := if (n : Int) - k ≤ i ∧ i < n then dig q b (n - 1 - i).toNat else X i
def hY (n : Nat) (bd : Int → Int) (q b : Int) : Nat → Int → Int
  | 0, _ => 0
  | k + 1, h => if h = dig q b k then hY n bd q b k h + bd ((n : Int) - 1 - k) else hY n bd q b k h
def mxS (Y : Int → Int) : Nat → Int
  | 0 => 0
  | q + 1 => if mxS Y q < Y q then Y q else mxS Y q
theorem mxS_t {Y : Int → Int} {q : Nat} (h : mxS Y q < Y q) : mxS Y (q + 1) = Y q := if_pos h
theorem mxS_f {Y : Int → Int} {q : Nat} (h : ¬ mxS Y q < Y q) : mxS Y (q + 1) = mxS Y q := if_neg h
theorem cdv_b {q b : Int} (hq : 0 ≤ q) (hb : 1 ≤ b) : ∀ k : Nat, 0 ≤ cdv q b k ∧ cdv q b k ≤ q := by
  intro k
  induction k with
  | zero => exact ⟨hq, Int.le_refl _⟩
  | succ k ih =>
    unfold cdv
    have h1 : cdv q b k / b ≤ cdv q b k := Int.ediv_le_self b ih.1
    have h2 : 0 ≤ cdv q b k / b := Int.ediv_nonneg ih.1 (by omega)
    omega
theorem dig_b {q b : Int} (hb : 1 ≤ b) (k : Nat) : 0 ≤ dig q b k ∧ dig q b k < b := ⟨Int.emod_nonneg _ (by omega), Int.emod_lt_of_pos _ (by omega)⟩
theorem hY_b {n : Nat} {bd : Int → Int} {q b : Int} (hd : ∀ i : Int, 0 ≤ i → i < n → 0 ≤ bd i ∧ bd i ≤ 99) (h : Int) : ∀ k : Nat, k ≤ n → 0 ≤ hY n bd q b k h ∧ hY n bd q b k h ≤ 99 * k := by
  intro k
  induction k with
  | zero => intro _; exact (show 0 ≤ (0 : Int) ∧ (0 : Int) ≤ 99 * ((0 : Nat) : Int) by omega)
  | succ k ih =>
    intro hk
    have h1 := ih (by omega)
    have h2 := hd ((n : Int) - 1 - k) (by omega) (by omega)
    unfold hY
    split <;> omega
theorem hY_s {n : Nat} {bd : Int → Int} {q b : Int} {k : Nat} {g : Int} (hv : dig q b k = g) (c : Int) : hY n bd q b (k + 1) c = if c = g then hY n bd q b k g + bd ((n : Int) - 1 - k) else hY n bd q b k c := by
  subst hv
  by_cases h : c = dig q b k
  · rw [if_pos h, ← h]; exact if_pos h
  · rw [if_neg h]; exact if_neg h
theorem hX_s {n : Nat} {q b : Int} {X : Int → Int} {k : Nat} {i : Int} (hi : i = (n : Int) - 1 - k) (hk : k < n) {v : Int} (hv : dig q b k = v) (c : Int) : hX n q b X (k + 1) c = if c = i then v else hX n q b X k c := by
  unfold hX
  by_cases h : c = i
  · rw [if_pos h, if_pos (by omega), ← hv, show ((n : Int) - 1 - c).toNat = k by omega]
  · rw [if_neg h]
    by_cases h2 : (n : Int) - k ≤ c ∧ c < n
    · rw [if_pos h2, if_pos (by omega)]
    · rw [if_neg h2, if_neg (by omega)]
theorem l_end3 {x y z : Int} {M : Me} {b : Nat} (hb1 : 1 ≤ b) (hb4 : b ≤ 4) {q : Int} (hq0 : 0 ≤ q) (hq1 : q ≤ 65536) {n : Nat} (hn : M 430 5 = (n : Int)) (hn8 : n ≤ 8) (hbd : ∀ i : Int, 0 ≤ i → i < n → 0 ≤ M 430 (130 + i) ∧ M 430 (130 + i) ≤ 99) : ∀ (m i : Nat), m + i = b → V kX11_endOf 0 0 0 none (Ex (some (0, mxS (hY n (fun i => M 430 (130 + i)) q b n) b)) (Sf x y z) (enM M (hX n q b (fun c => M 439 c) n) (hY n (fun i => M 430 (130 + i)) q b n))) 85 [(1, 429), (0, q), (0, (b : Int)), (9, 0), (0, mxS (hY n (fun i => M 430 (130 + i)) q b n) i), (0, (i : Int))] [] (Sf x y z) (enM M (hX n q b (fun c => M 439 c) n) (hY n (fun i => M 430 (130 + i)) q b n)) 0 0 := by
  intro m
  induction m with
  | zero =>
    intro i hi
    obtain rfl : i = b := by omega
    refine r_iload dX11_endOf_85 rfl ?_
    refine r_iload_n dX11_endOf_87 rfl ?_
    refine r_icmp_ge (tgt := 123) dX11_endOf_88 (by decide) (fun h88 => ?_) (fun h88 => by exfalso; omega)
    refine r_iload dX11_endOf_123 rfl ?_
    refine r_iret dX11_endOf_125 rfl ?_
    exact ⟨rfl, rfl, rfl⟩
  | succ m ih =>
    intro i hi
    refine r_iload dX11_endOf_85 rfl ?_
    refine r_iload_n dX11_endOf_87 rfl ?_
    refine r_icmp_ge (tgt := 123) dX11_endOf_88 (by decide) (fun h88 => by exfalso; omega) (fun h88 => ?_)
    refine r_aload_n dX11_endOf_91 rfl (by decide) ?_
    refine r_getr (x := 438) dX11_endOf_92 flX11_43 sf429 (by decide) (by decide) rfl rfl ?_
    refine r_iload dX11_endOf_95 rfl ?_
    refine r_iald dX11_endOf_97 sf438 (by decide) (by omega) (by omega) (by decide) (rd_eY (by omega) rfl) ?_
    refine r_iload dX11_endOf_98 rfl ?_
    refine r_icmp_le (tgt := 113) dX11_endOf_100 (by decide) (fun h100 => ?_) (fun h100 => ?_)
    · refine r_iload dX11_endOf_113 rfl ?_
      refine r_istore dX11_endOf_115 rfl (by decide) st4 ?_
      refine r_iinc dX11_endOf_117 rfl rfl (by decide) (w32_id (by omega)) st5 ?_
      refine r_goto (tgt := 85) dX11_endOf_120 (by decide) ?_
      first | exact V.al (by rw [mxS_t (by omega)]; rfl) (ih (i + 1) (by omega)) | exact V.al (by rw [mxS_f (by omega)]; rfl) (ih (i + 1) (by omega))
    · refine r_aload_n dX11_endOf_103 rfl (by decide) ?_
      refine r_getr (x := 438) dX11_endOf_104 flX11_43 sf429 (by decide) (by decide) rfl rfl ?_
      refine r_iload dX11_endOf_107 rfl ?_
      refine r_iald dX11_endOf_109 sf438 (by decide) (by omega) (by omega) (by decide) (rd_eY (by omega) rfl) ?_
      refine r_goto (tgt := 115) dX11_endOf_110 (by decide) ?_
      refine r_istore dX11_endOf_115 rfl (by decide) st4 ?_
      refine r_iinc dX11_endOf_117 rfl rfl (by decide) (w32_id (by omega)) st5 ?_
      refine r_goto (tgt := 85) dX11_endOf_120 (by decide) ?_
      first | exact V.al (by rw [mxS_t (by omega)]; rfl) (ih (i + 1) (by omega)) | exact V.al (by rw [mxS_f (by omega)]; rfl) (ih (i + 1) (by omega))
theorem l_end2 {x y z : Int} {M : Me} {b : Nat} (hb1 : 1 ≤ b) (hb4 : b ≤ 4) {q : Int} (hq0 : 0 ≤ q) (hq1 : q ≤ 65536) {n : Nat} (hn : M 430 5 = (n : Int)) (hn8 : n ≤ 8) (hbd : ∀ i : Int, 0 ≤ i → i < n → 0 ≤ M 430 (130 + i) ∧ M 430 (130 + i) ≤ 99) : ∀ (m k : Nat), m + k = n → V kX11_endOf 0 0 0 none (Ex (some (0, mxS (hY n (fun i => M 430 (130 + i)) q b n) b)) (Sf x y z) (enM M (hX n q b (fun c => M 439 c) n) (hY n (fun i => M 430 (130 + i)) q b n))) 32 [(1, 429), (0, q), (0, (b : Int)), (0, cdv q b k), (0, (n : Int) - 1 - k), (9, 0)] [] (Sf x y z) (enM M (hX n q b (fun c => M 439 c) k) (hY n (fun i => M 430 (130 + i)) q b k)) 0 0 := by
  intro m
  induction m with
  | zero =>
    intro k hi
    obtain rfl : k = n := by omega
    refine r_iload dX11_endOf_32 rfl ?_
    refine r_if_lt (tgt := 79) dX11_endOf_34 (by decide) (fun h34 => ?_) (fun h34 => by exfalso; omega)
    refine r_iconst dX11_endOf_79 (by decide) ?_
    refine r_istore dX11_endOf_80 rfl (by decide) st4 ?_
    refine r_iconst dX11_endOf_82 (by decide) ?_
    refine r_istore dX11_endOf_83 rfl (by decide) st5 ?_
    refine wk3 (l_end3 hb1 hb4 hq0 hq1 hn hn8 hbd b 0 (by omega))
  | succ m ih =>
    intro k hi
    have h0 := cdv_b (b := b) hq0 (by omega) k
    have h1 : 0 ≤ cdv q b k % b ∧ cdv q b k % b < b := dig_b (q := q) (b := b) (by omega) k
    have h2 := hY_b (n := n) (bd := (fun i => M 430 (130 + i))) (q := q) (b := b) hbd (cdv q b k % b) k (by omega)
    have h3 := hbd ((n : Int) - 1 - k) (by omega) (by omega)
    refine r_iload dX11_endOf_32 rfl ?_
    refine r_if_lt (tgt := 79) dX11_endOf_34 (by decide) (fun h34 => by exfalso; omega) (fun h34 => ?_)
    refine r_aload_n dX11_endOf_37 rfl (by decide) ?_
    refine r_getr (x := 439) dX11_endOf_38 flX11_46 sf429 (by decide) (by decide) rfl rfl ?_
    refine r_iload dX11_endOf_41 rfl ?_
    refine r_iload_n dX11_endOf_43 rfl ?_
    refine r_iload_n dX11_endOf_44 rfl ?_
    refine r_irem dX11_endOf_45 (by omega) (rmn (by omega)) ?_
    refine r_iast dX11_endOf_46 sf439 (by decide) (by omega) (by omega) (by decide) rfl ?_
    refine V.cm rfl (enM_X (by omega) (fun c _ _ => hX_s (k := k) rfl (by omega) rfl c)) ?_
    refine r_aload_n dX11_endOf_47 rfl (by decide) ?_
    refine r_getr (x := 438) dX11_endOf_48 flX11_43 sf429 (by decide) (by decide) rfl rfl ?_
    refine r_iload_n dX11_endOf_51 rfl ?_
    refine r_iload_n dX11_endOf_52 rfl ?_
    refine r_irem dX11_endOf_53 (by omega) (rmn (by omega)) ?_
    refine r_dup2 dX11_endOf_54 (Nat.ne_of_beq_eq_false rfl) (Nat.ne_of_beq_eq_false rfl) ?_
    refine r_iald dX11_endOf_55 sf438 (by decide) (by omega) (by omega) (by decide) (rd_eY (by omega) rfl) ?_
    refine r_aload_n dX11_endOf_56 rfl (by decide) ?_
    refine r_getr (x := 430) dX11_endOf_57 flX11_7 sf429 (by decide) (by decide) rfl rfl ?_
    refine r_sipush dX11_endOf_60 (by decide) (by decide) ?_
    refine r_iload dX11_endOf_63 rfl ?_
    refine r_iadd dX11_endOf_65 (w32_id (by omega)) ?_
    refine r_iald dX11_endOf_66 sf430 (by decide) (by omega) (by omega) (by decide) (by first | assumption | ((repeat (first | (apply rd_ne; · omega) | (apply rd_eq; · omega) | (apply rd_out; · omega) | (apply rd_in; · omega) | (apply rd_e0; · omega) | (apply rd_eX; · omega) | (apply rd_eY; · omega))); first | assumption | rfl)) ?_
    refine r_iadd dX11_endOf_67 (w32_id (by omega)) ?_
    refine r_iast dX11_endOf_68 sf438 (by decide) (by omega) (by omega) (by decide) rfl ?_
    refine V.cm rfl (enM_Y (Y' := (hY n (fun i => M 430 (130 + i)) q b (k + 1))) (by omega) (fun c _ _ => hY_s (k := k) rfl c)) ?_
    refine r_iload_n dX11_endOf_69 rfl ?_
    refine r_iload_n dX11_endOf_70 rfl ?_
    refine r_idiv dX11_endOf_71 (by omega) (dvn (by omega) (by omega) (by omega)) ?_
    refine r_istore_n dX11_endOf_72 rfl (by decide) st3 ?_
    refine r_iinc dX11_endOf_73 rfl rfl (by decide) (w32_id (by omega)) st4 ?_
    refine r_goto (tgt := 32) dX11_endOf_76 (by decide) ?_
    exact V.al (by rw [show (n : Int) - 1 - k + -1 = (n : Int) - 1 - ((k + 1 : Nat) : Int) by omega]; rfl) (ih (k + 1) (by omega))
theorem l_end1 {x y z : Int} {M : Me} {b : Nat} (hb1 : 1 ≤ b) (hb4 : b ≤ 4) {q : Int} (hq0 : 0 ≤ q) (hq1 : q ≤ 65536) {n : Nat} (hn : M 430 5 = (n : Int)) (hn8 : n ≤ 8) (hbd : ∀ i : Int, 0 ≤ i → i < n → 0 ≤ M 430 (130 + i) ∧ M 430 (130 + i) ≤ 99) : ∀ (m i : Nat), m + i = 4 → V kX11_endOf 0 0 0 none (Ex (some (0, mxS (hY n (fun i => M 430 (130 + i)) q b n) b)) (Sf x y z) (enM M (hX n q b (fun c => M 439 c) n) (hY n (fun i => M 430 (130 + i)) q b n))) 2 [(1, 429), (0, q), (0, (b : Int)), (0, (i : Int)), (9, 0), (9, 0)] [] (Sf x y z) (enM M (fun c => M 439 c) (fun c => if c < (i : Int) then 0 else M 438 c)) 0 0 := by
  intro m
  induction m with
  | zero =>
    intro i hi
    obtain rfl : i = 4 := by omega
    refine r_iload_n dX11_endOf_2 rfl ?_
    refine r_iconst dX11_endOf_3 (by decide) ?_
    refine r_icmp_ge (tgt := 20) dX11_endOf_4 (by decide) (fun h4 => ?_) (fun h4 => by exfalso; omega)
    refine r_iload_n dX11_endOf_20 rfl ?_
    refine r_istore_n dX11_endOf_21 rfl (by decide) st3 ?_
    refine r_aload_n dX11_endOf_22 rfl (by decide) ?_
    refine r_getr (x := 430) dX11_endOf_23 flX11_7 sf429 (by decide) (by decide) rfl rfl ?_
    refine r_iconst dX11_endOf_26 (by decide) ?_
    refine r_iald dX11_endOf_27 sf430 (by decide) (by omega) (by omega) (by decide) ((enM_o (by omega)).trans hn) ?_
    refine r_iconst dX11_endOf_28 (by decide) ?_
    refine r_isub dX11_endOf_29 (w32_id (by omega)) ?_
    refine r_istore dX11_endOf_30 rfl (by decide) st4 ?_
    exact V.al (by rw [show (n : Int) - 1 - ((0 : Nat) : Int) = (n : Int) - 1 by omega]; rfl) (V.cm rfl (enM_c (fun _ _ _ _ => rfl) (fun c _ _ => (if_neg (by omega)).symm) (fun c _ _ => if_pos (by omega))) (l_end2 hb1 hb4 hq0 hq1 hn hn8 hbd n 0 (by omega)))
  | succ m ih =>
    intro i hi
    refine r_iload_n dX11_endOf_2 rfl ?_
    refine r_iconst dX11_endOf_3 (by decide) ?_
    refine r_icmp_ge (tgt := 20) dX11_endOf_4 (by decide) (fun h4 => by exfalso; omega) (fun h4 => ?_)
    refine r_aload_n dX11_endOf_7 rfl (by decide) ?_
    refine r_getr (x := 438) dX11_endOf_8 flX11_43 sf429 (by decide) (by decide) rfl rfl ?_
    refine r_iload_n dX11_endOf_11 rfl ?_
    refine r_iconst dX11_endOf_12 (by decide) ?_
    refine r_iast dX11_endOf_13 sf438 (by decide) (by omega) (by omega) (by decide) rfl ?_
    refine r_iinc dX11_endOf_14 rfl rfl (by decide) (w32_id (by omega)) st3 ?_
    refine r_goto (tgt := 2) dX11_endOf_17 (by decide) ?_
    exact V.cm rfl (enM_Y (by omega) (fun c q1 q2 => lay_if (h := fun _ => 0) (g := fun c => M 438 c) rfl)) (ih (i + 1) (by omega))
theorem m_endOf {x y z : Int} {M : Me} {b : Nat} (hb1 : 1 ≤ b) (hb4 : b ≤ 4) {q : Int} (hq0 : 0 ≤ q) (hq1 : q ≤ 65536) {n : Nat} (hn : M 430 5 = (n : Int)) (hn8 : n ≤ 8) (hbd : ∀ i : Int, 0 ≤ i → i < n → 0 ≤ M 430 (130 + i) ∧ M 430 (130 + i) ≤ 99) : Con kX11_endOf 0 0 0 [(1, 429), (0, q), (0, (b : Int))] (Sf x y z) M (Ex (some (0, mxS (hY n (fun i => M 430 (130 + i)) q b n) b)) (Sf x y z) (enM M (hX n q b (fun c => M 439 c) n) (hY n (fun i => M 430 (130 + i)) q b n))) := by
  refine Con.ofV (al := [(1, 429), (0, q), (0, (b : Int)), (9, 0), (9, 0), (9, 0)]) 3 (by decide) (Nat.le_of_ble_eq_true rfl) rfl ?_
  refine r_iconst dX11_endOf_0 (by decide) ?_
  refine r_istore_n dX11_endOf_1 rfl (by decide) st3 ?_
  refine V.cm rfl (enM_id.trans (enM_c (fun _ _ _ _ => rfl) (fun c _ _ => rfl) (fun c q1 q2 => (if_neg (by omega)).symm))) (l_end1 hb1 hb4 hq0 hq1 hn hn8 hbd 4 0 (by omega))
