/-- the reference's memory behind hands: who has which board, and how much each has -/
def enM (M : Me) (X Y : Int → Int) : Me := fun a j => if a = 439 ∧ 0 ≤ j ∧ j < 8 then X j else if a = 438 ∧ 0 ≤ j ∧ j < 4 then Y j else M a j
theorem enM_o {M : Me} {X Y : Int → Int} {a j : Int} (h : ¬ (a = 439 ∧ 0 ≤ j ∧ j < 8) ∧ ¬ (a = 438 ∧ 0 ≤ j ∧ j < 4)) : enM M X Y a j = M a j := by unfold enM; rw [if_neg h.1, if_neg h.2]
theorem rd_e0 {M : Me} {X Y : Int → Int} {a j z : Int} (h : ¬ (a = 439 ∧ 0 ≤ j ∧ j < 8) ∧ ¬ (a = 438 ∧ 0 ≤ j ∧ j < 4)) (k : M a j = z) : enM M X Y a j = z := (enM_o h).trans k
theorem rd_eX {M : Me} {X Y : Int → Int} {a j z : Int} (h : a = 439 ∧ 0 ≤ j ∧ j < 8) (k : X j = z) : enM M X Y a j = z := by unfold enM; rw [if_pos h]; exact k
theorem rd_eY {M : Me} {X Y : Int → Int} {a j z : Int} (h : a = 438 ∧ 0 ≤ j ∧ j < 4) (k : Y j = z) : enM M X Y a j = z := by unfold enM; rw [if_neg (by omega), if_pos h]; exact k
theorem enM_row {M : Me} {X Y : Int → Int} : enM M X Y 430 = M 430 := by funext j; exact enM_o (by omega)
theorem enM_c {M N : Me} {X X' Y Y' : Int → Int} (hM : ∀ a j, ¬ (a = 439 ∧ 0 ≤ j ∧ j < 8) → ¬ (a = 438 ∧ 0 ≤ j ∧ j < 4) → M a j = N a j) (h : ∀ c, 0 ≤ c → c < 8 → X c = X' c) (h' : ∀ c, 0 ≤ c → c < 4 → Y c = Y' c) : enM M X Y = enM N X' Y' := by
  funext a j
  unfold enM
  by_cases h1 : a = 439 ∧ 0 ≤ j ∧ j < 8
  · rw [if_pos h1, if_pos h1, h j h1.2.1 h1.2.2]
  · rw [if_neg h1, if_neg h1]
    by_cases h3 : a = 438 ∧ 0 ≤ j ∧ j < 4
    · rw [if_pos h3, if_pos h3, h' j h3.2.1 h3.2.2]
    · rw [if_neg h3, if_neg h3]; exact hM a j h1 h3
theorem enM_id {M : Me} : M = enM M (fun c => M 439 c) (fun c => M 438 c) := by
  funext a j
  unfold enM
  split
  · rename_i h; rw [h.1]
  · split
    · rename_i h; rw [h.1]
    · rfl
theorem enM_Y {M : Me} {y v : Int} {X Y Y' : Int → Int} (hy : 0 ≤ y ∧ y < 4) (h : ∀ c, 0 ≤ c → c < 4 → Y' c = if c = y then v else Y c) : up (enM M X Y) 438 y v = enM M X Y' := by
  funext a j
  unfold up enM
  by_cases h1 : a = 438 ∧ j = y
  · rw [if_pos h1, if_neg (by omega), if_pos (by omega), h j (by omega) (by omega), if_pos h1.2]
  · rw [if_neg h1]
    by_cases h2 : a = 439 ∧ 0 ≤ j ∧ j < 8
    · rw [if_pos h2, if_pos h2]
    · rw [if_neg h2, if_neg h2]
      by_cases h3 : a = 438 ∧ 0 ≤ j ∧ j < 4
      · rw [if_pos h3, if_pos h3, h j h3.2.1 h3.2.2, if_neg (fun q => h1 ⟨h3.1, q⟩)]
      · rw [if_neg h3, if_neg h3]
theorem enM_X {M : Me} {y v : Int} {X Y X' : Int → Int} (hy : 0 ≤ y ∧ y < 8) (h : ∀ c, 0 ≤ c → c < 8 → X' c = if c = y then v else X c) : up (enM M X Y) 439 y v = enM M X' Y := by
  funext a j
  unfold up enM
  by_cases h1 : a = 439 ∧ j = y
  · rw [if_pos h1, if_pos (by omega), h j (by omega) (by omega), if_pos h1.2]
  · rw [if_neg h1]
    by_cases h2 : a = 439 ∧ 0 ≤ j ∧ j < 8
    · rw [if_pos h2, if_pos h2, h j h2.2.1 h2.2.2, if_neg (fun q => h1 ⟨h2.1, q⟩)]
    · rw [if_neg h2, if_neg h2]
/-- the code behind k boards; whose the board is; what each has behind k boards -/
def cdv (q b : Int) : Nat → Int
  | 0 => q
  | k + 1 => cdv q b k / b
def dig (q b : Int) (k : Nat) : Int := cdv q b k % b
def hX (n : Nat) (q b : Int) (X : Int → Int) (k : Nat) (i : Int) : Int := if (n : Int) - k ≤ i ∧ i < n then dig q b (n - 1 - i).toNat else X i
def hY (n : Nat) (bd : Int → Int) (q b : Int) : Nat → Int → Int
  | 0, _ => 0
  | k + 1, h => if h = dig q b k then hY n bd q b k h + bd ((n : Int) - 1 - k) else hY n bd q b k h
def mxS (Y : Int → Int) : Nat → Int
  | 0 => 0
  | q + 1 => if mxS Y q < Y q then Y q else mxS Y q
theorem mxS_t {Y : Int → Int} {q : Nat} (h : mxS Y q < Y q) : mxS Y (q + 1) = Y q := if_pos h
theorem mxS_f {Y : Int → Int} {q : Nat} (h : ¬ mxS Y q < Y q) : mxS Y (q + 1) = mxS Y q := if_neg h
theorem cdv_b {q b : Int} (hq : 0 ≤ q) (hb : 1 ≤ b) : ∀ k : Nat, 0 ≤ cdv q b k ∧ cdv q b k ≤ q := by
  intro k
  induction k with
  | zero => exact ⟨hq, Int.le_refl _⟩
  | succ k ih =>
    unfold cdv
    have h1 : cdv q b k / b ≤ cdv q b k := Int.ediv_le_self b ih.1
    have h2 : 0 ≤ cdv q b k / b := Int.ediv_nonneg ih.1 (by omega)
    omega
theorem dig_b {q b : Int} (hb : 1 ≤ b) (k : Nat) : 0 ≤ dig q b k ∧ dig q b k < b := ⟨Int.emod_nonneg _ (by omega), Int.emod_lt_of_pos _ (by omega)⟩
theorem hY_b {n : Nat} {bd : Int → Int} {q b : Int} (hd : ∀ i : Int, 0 ≤ i → i < n → 0 ≤ bd i ∧ bd i ≤ 99) (h : Int) : ∀ k : Nat, k ≤ n → 0 ≤ hY n bd q b k h ∧ hY n bd q b k h ≤ 99 * k := by
  intro k
  induction k with
  | zero => intro _; exact (show 0 ≤ (0 : Int) ∧ (0 : Int) ≤ 99 * ((0 : Nat) : Int) by omega)
  | succ k ih =>
    intro hk
    have h1 := ih (by omega)
    have h2 := hd ((n : Int) - 1 - k) (by omega) (by omega)
    unfold hY
    split <;> omega
theorem hY_s {n : Nat} {bd : Int → Int} {q b : Int} {k : Nat} {g : Int} (hv : dig q b k = g) (c : Int) : hY n bd q b (k + 1) c = if c = g then hY n bd q b k g + bd ((n : Int) - 1 - k) else hY n bd q b k c := by
  subst hv
  by_cases h : c = dig q b k
  · rw [if_pos h, ← h]; exact if_pos h
  · rw [if_neg h]; exact if_neg h
theorem hX_s {n : Nat} {q b : Int} {X : Int → Int} {k : Nat} {i : Int} (hi : i = (n : Int) - 1 - k) (hk : k < n) {v : Int} (hv : dig q b k = v) (c : Int) : hX n q b X (k + 1) c = if c = i then v else hX n q b X k c := by
  unfold hX
  by_cases h : c = i
  · rw [if_pos h, if_pos (by omega), ← hv, show ((n : Int) - 1 - c).toNat = k by omega]
  · rw [if_neg h]
    by_cases h2 : (n : Int) - k ≤ c ∧ c < n
    · rw [if_pos h2, if_pos (by omega)]
    · rw [if_neg h2, if_neg (by omega)]
theorem l_end3 {x y z : Int} {M : Me} {b : Nat} (hb1 : 1 ≤ b) (hb4 : b ≤ 4) {q : Int} (hq0 : 0 ≤ q) (hq1 : q ≤ 65536) {n : Nat} (hn : M 430 5 = (n : Int)) (hn8 : n ≤ 8) (hbd : ∀ i : Int, 0 ≤ i → i < n → 0 ≤ M 430 (130 + i) ∧ M 430 (130 + i) ≤ 99) : ∀ (m i : Nat), m + i = b → V kX11_endOf 0 0 0 none (Ex (some (0, mxS (hY n (fun i => M 430 (130 + i)) q b n) b)) (Sf x y z) (enM M (hX n q b (fun c => M 439 c) n) (hY n (fun i => M 430 (130 + i)) q b n))) 85 [(1, 429), (0, q), (0, (b : Int)), (9, 0), (0, mxS (hY n (fun i => M 430 (130 + i)) q b n) i), (0, (i : Int))] [] (Sf x y z) (enM M (hX n q b (fun c => M 439 c) n) (hY n (fun i => M 430 (130 + i)) q b n)) 0 0 := by
  intro m
  induction m with
  | zero =>
    intro i hi
    obtain rfl : i = b := by omega
    refine r_iload dX11_endOf_85 rfl ?_
    refine r_iload_n dX11_endOf_87 rfl ?_
    refine r_icmp_ge (tgt := 123) dX11_endOf_88 (by decide) (fun h88 => ?_) (fun h88 => by exfalso; omega)
    refine r_iload dX11_endOf_123 rfl ?_
    refine r_iret dX11_endOf_125 rfl ?_
    exact ⟨rfl, rfl, rfl⟩
  | succ m ih =>
    intro i hi
    refine r_iload dX11_endOf_85 rfl ?_
    refine r_iload_n dX11_endOf_87 rfl ?_
    refine r_icmp_ge (tgt := 123) dX11_endOf_88 (by decide) (fun h88 => by exfalso; omega) (fun h88 => ?_)
    refine r_aload_n dX11_endOf_91 rfl (by decide) ?_
    refine r_getr (x := 438) dX11_endOf_92 flX11_43 sf429 (by decide) (by decide) rfl rfl ?_
    refine r_iload dX11_endOf_95 rfl ?_
    refine r_iald dX11_endOf_97 sf438 (by decide) (by omega) (by omega) (by decide) (rd_eY (by omega) rfl) ?_
    refine r_iload dX11_endOf_98 rfl ?_
    refine r_icmp_le (tgt := 113) dX11_endOf_100 (by decide) (fun h100 => ?_) (fun h100 => ?_)
    · refine r_iload dX11_endOf_113 rfl ?_
      refine r_istore dX11_endOf_115 rfl (by decide) st4 ?_
      refine r_iinc dX11_endOf_117 rfl rfl (by decide) (w32_id (by omega)) st5 ?_
      refine r_goto (tgt := 85) dX11_endOf_120 (by decide) ?_
      first | exact V.al (by rw [mxS_t (by omega)]; rfl) (ih (i + 1) (by omega)) | exact V.al (by rw [mxS_f (by omega)]; rfl) (ih (i + 1) (by omega))
    · refine r_aload_n dX11_endOf_103 rfl (by decide) ?_
      refine r_getr (x := 438) dX11_endOf_104 flX11_43 sf429 (by decide) (by decide) rfl rfl ?_
      refine r_iload dX11_endOf_107 rfl ?_
      refine r_iald dX11_endOf_109 sf438 (by decide) (by omega) (by omega) (by decide) (rd_eY (by omega) rfl) ?_
      refine r_goto (tgt := 115) dX11_endOf_110 (by decide) ?_
      refine r_istore dX11_endOf_115 rfl (by decide) st4 ?_
      refine r_iinc dX11_endOf_117 rfl rfl (by decide) (w32_id (by omega)) st5 ?_
      refine r_goto (tgt := 85) dX11_endOf_120 (by decide) ?_
      first | exact V.al (by rw [mxS_t (by omega)]; rfl) (ih (i + 1) (by omega)) | exact V.al (by rw [mxS_f (by omega)]; rfl) (ih (i + 1) (by omega))
theorem l_end2 {x y z : Int} {M : Me} {b : Nat} (hb1 : 1 ≤ b) (hb4 : b ≤ 4) {q : Int} (hq0 : 0 ≤ q) (hq1 : q ≤ 65536) {n : Nat} (hn : M 430 5 = (n : Int)) (hn8 : n ≤ 8) (hbd : ∀ i : Int, 0 ≤ i → i < n → 0 ≤ M 430 (130 + i) ∧ M 430 (130 + i) ≤ 99) : ∀ (m k : Nat), m + k = n → V kX11_endOf 0 0 0 none (Ex (some (0, mxS (hY n (fun i => M 430 (130 + i)) q b n) b)) (Sf x y z) (enM M (hX n q b (fun c => M 439 c) n) (hY n (fun i => M 430 (130 + i)) q b n))) 32 [(1, 429), (0, q), (0, (b : Int)), (0, cdv q b k), (0, (n : Int) - 1 - k), (9, 0)] [] (Sf x y z) (enM M (hX n q b (fun c => M 439 c) k) (hY n (fun i => M 430 (130 + i)) q b k)) 0 0 := by
  intro m
  induction m with
  | zero =>
    intro k hi
    obtain rfl : k = n := by omega
    refine r_iload dX11_endOf_32 rfl ?_
    refine r_if_lt (tgt := 79) dX11_endOf_34 (by decide) (fun h34 => ?_) (fun h34 => by exfalso; omega)
    refine r_iconst dX11_endOf_79 (by decide) ?_
    refine r_istore dX11_endOf_80 rfl (by decide) st4 ?_
    refine r_iconst dX11_endOf_82 (by decide) ?_
    refine r_istore dX11_endOf_83 rfl (by decide) st5 ?_
    refine wk3 (l_end3 hb1 hb4 hq0 hq1 hn hn8 hbd b 0 (by omega))
  | succ m ih =>
    intro k hi
    have h0 := cdv_b (b := b) hq0 (by omega) k
    have h1 : 0 ≤ cdv q b k % b ∧ cdv q b k % b < b := dig_b (q := q) (b := b) (by omega) k
    have h2 := hY_b (n := n) (bd := (fun i => M 430 (130 + i))) (q := q) (b := b) hbd (cdv q b k % b) k (by omega)
    have h3 := hbd ((n : Int) - 1 - k) (by omega) (by omega)
    refine r_iload dX11_endOf_32 rfl ?_
    refine r_if_lt (tgt := 79) dX11_endOf_34 (by decide) (fun h34 => by exfalso; omega) (fun h34 => ?_)
    refine r_aload_n dX11_endOf_37 rfl (by decide) ?_
    refine r_getr (x := 439) dX11_endOf_38 flX11_46 sf429 (by decide) (by decide) rfl rfl ?_
    refine r_iload dX11_endOf_41 rfl ?_
    refine r_iload_n dX11_endOf_43 rfl ?_
    refine r_iload_n dX11_endOf_44 rfl ?_
    refine r_irem dX11_endOf_45 (by omega) (rmn (by omega)) ?_
    refine r_iast dX11_endOf_46 sf439 (by decide) (by omega) (by omega) (by decide) rfl ?_
    refine V.cm rfl (enM_X (by omega) (fun c _ _ => hX_s (k := k) rfl (by omega) rfl c)) ?_
    refine r_aload_n dX11_endOf_47 rfl (by decide) ?_
    refine r_getr (x := 438) dX11_endOf_48 flX11_43 sf429 (by decide) (by decide) rfl rfl ?_
    refine r_iload_n dX11_endOf_51 rfl ?_
    refine r_iload_n dX11_endOf_52 rfl ?_
    refine r_irem dX11_endOf_53 (by omega) (rmn (by omega)) ?_
    refine r_dup2 dX11_endOf_54 (Nat.ne_of_beq_eq_false rfl) (Nat.ne_of_beq_eq_false rfl) ?_
    refine r_iald dX11_endOf_55 sf438 (by decide) (by omega) (by omega) (by decide) (rd_eY (by omega) rfl) ?_
    refine r_aload_n dX11_endOf_56 rfl (by decide) ?_
    refine r_getr (x := 430) dX11_endOf_57 flX11_7 sf429 (by decide) (by decide) rfl rfl ?_
    refine r_sipush dX11_endOf_60 (by decide) (by decide) ?_
    refine r_iload dX11_endOf_63 rfl ?_
    refine r_iadd dX11_endOf_65 (w32_id (by omega)) ?_
    refine r_iald dX11_endOf_66 sf430 (by decide) (by omega) (by omega) (by decide) (by first | assumption | ((repeat (first | (apply rd_ne; · omega) | (apply rd_eq; · omega) | (apply rd_out; · omega) | (apply rd_in; · omega) | (apply rd_e0; · omega) | (apply rd_eX; · omega) | (apply rd_eY; · omega))); first | assumption | rfl)) ?_
    refine r_iadd dX11_endOf_67 (w32_id (by omega)) ?_
    refine r_iast dX11_endOf_68 sf438 (by decide) (by omega) (by omega) (by decide) rfl ?_
    refine V.cm rfl (enM_Y (Y' := (hY n (fun i => M 430 (130 + i)) q b (k + 1))) (by omega) (fun c _ _ => hY_s (k := k) rfl c)) ?_
    refine r_iload_n dX11_endOf_69 rfl ?_
    refine r_iload_n dX11_endOf_70 rfl ?_
    refine r_idiv dX11_endOf_71 (by omega) (dvn (by omega) (by omega) (by omega)) ?_
    refine r_istore_n dX11_endOf_72 rfl (by decide) st3 ?_
    refine r_iinc dX11_endOf_73 rfl rfl (by decide) (w32_id (by omega)) st4 ?_
    refine r_goto (tgt := 32) dX11_endOf_76 (by decide) ?_
    exact V.al (by rw [show (n : Int) - 1 - k + -1 = (n : Int) - 1 - ((k + 1 : Nat) : Int) by omega]; rfl) (ih (k + 1) (by omega))
theorem l_end1 {x y z : Int} {M : Me} {b : Nat} (hb1 : 1 ≤ b) (hb4 : b ≤ 4) {q : Int} (hq0 : 0 ≤ q) (hq1 : q ≤ 65536) {n : Nat} (hn : M 430 5 = (n : Int)) (hn8 : n ≤ 8) (hbd : ∀ i : Int, 0 ≤ i → i < n → 0 ≤ M 430 (130 + i) ∧ M 430 (130 + i) ≤ 99) : ∀ (m i : Nat), m + i = 4 → V kX11_endOf 0 0 0 none (Ex (some (0, mxS (hY n (fun i => M 430 (130 + i)) q b n) b)) (Sf x y z) (enM M (hX n q b (fun c => M 439 c) n) (hY n (fun i => M 430 (130 + i)) q b n))) 2 [(1, 429), (0, q), (0, (b : Int)), (0, (i : Int)), (9, 0), (9, 0)] [] (Sf x y z) (enM M (fun c => M 439 c) (fun c => if c < (i : Int) then 0 else M 438 c)) 0 0 := by
  intro m
  induction m with
  | zero =>
    intro i hi
    obtain rfl : i = 4 := by omega
    refine r_iload_n dX11_endOf_2 rfl ?_
    refine r_iconst dX11_endOf_3 (by decide) ?_
    refine r_icmp_ge (tgt := 20) dX11_endOf_4 (by decide) (fun h4 => ?_) (fun h4 => by exfalso; omega)
    refine r_iload_n dX11_endOf_20 rfl ?_
    refine r_istore_n dX11_endOf_21 rfl (by decide) st3 ?_
    refine r_aload_n dX11_endOf_22 rfl (by decide) ?_
    refine r_getr (x := 430) dX11_endOf_23 flX11_7 sf429 (by decide) (by decide) rfl rfl ?_
    refine r_iconst dX11_endOf_26 (by decide) ?_
    refine r_iald dX11_endOf_27 sf430 (by decide) (by omega) (by omega) (by decide) ((enM_o (by omega)).trans hn) ?_
    refine r_iconst dX11_endOf_28 (by decide) ?_
    refine r_isub dX11_endOf_29 (w32_id (by omega)) ?_
    refine r_istore dX11_endOf_30 rfl (by decide) st4 ?_
    exact V.al (by rw [show (n : Int) - 1 - ((0 : Nat) : Int) = (n : Int) - 1 by omega]; rfl) (V.cm rfl (enM_c (fun _ _ _ _ => rfl) (fun c _ _ => (if_neg (by omega)).symm) (fun c _ _ => if_pos (by omega))) (l_end2 hb1 hb4 hq0 hq1 hn hn8 hbd n 0 (by omega)))
  | succ m ih =>
    intro i hi
    refine r_iload_n dX11_endOf_2 rfl ?_
    refine r_iconst dX11_endOf_3 (by decide) ?_
    refine r_icmp_ge (tgt := 20) dX11_endOf_4 (by decide) (fun h4 => by exfalso; omega) (fun h4 => ?_)
    refine r_aload_n dX11_endOf_7 rfl (by decide) ?_
    refine r_getr (x := 438) dX11_endOf_8 flX11_43 sf429 (by decide) (by decide) rfl rfl ?_
    refine r_iload_n dX11_endOf_11 rfl ?_
    refine r_iconst dX11_endOf_12 (by decide) ?_
    refine r_iast dX11_endOf_13 sf438 (by decide) (by omega) (by omega) (by decide) rfl ?_
    refine r_iinc dX11_endOf_14 rfl rfl (by decide) (w32_id (by omega)) st3 ?_
    refine r_goto (tgt := 2) dX11_endOf_17 (by decide) ?_
    exact V.cm rfl (enM_Y (by omega) (fun c q1 q2 => lay_if (h := fun _ => 0) (g := fun c => M 438 c) rfl)) (ih (i + 1) (by omega))
theorem m_endOf {x y z : Int} {M : Me} {b : Nat} (hb1 : 1 ≤ b) (hb4 : b ≤ 4) {q : Int} (hq0 : 0 ≤ q) (hq1 : q ≤ 65536) {n : Nat} (hn : M 430 5 = (n : Int)) (hn8 : n ≤ 8) (hbd : ∀ i : Int, 0 ≤ i → i < n → 0 ≤ M 430 (130 + i) ∧ M 430 (130 + i) ≤ 99) : Con kX11_endOf 0 0 0 [(1, 429), (0, q), (0, (b : Int))] (Sf x y z) M (Ex (some (0, mxS (hY n (fun i => M 430 (130 + i)) q b n) b)) (Sf x y z) (enM M (hX n q b (fun c => M 439 c) n) (hY n (fun i => M 430 (130 + i)) q b n))) := by
  refine Con.ofV (al := [(1, 429), (0, q), (0, (b : Int)), (9, 0), (9, 0), (9, 0)]) 3 (by decide) (Nat.le_of_ble_eq_true rfl) rfl ?_
  refine r_iconst dX11_endOf_0 (by decide) ?_
  refine r_istore_n dX11_endOf_1 rfl (by decide) st3 ?_
  refine V.cm rfl (enM_id.trans (enM_c (fun _ _ _ _ => rfl) (fun c _ _ => rfl) (fun c q1 q2 => (if_neg (by omega)).symm))) (l_end1 hb1 hb4 hq0 hq1 hn hn8 hbd 4 0 (by omega))
theorem m_endOf2 {x y z : Int} {M : Me} {b : Nat} (hb1 : 1 ≤ b) (hb4 : b ≤ 4) {q : Int} (hq0 : 0 ≤ q) (hq1 : q ≤ 65536) {n : Nat} (hn : M 430 5 = (n : Int)) (hn8 : n ≤ 8) (hbd : ∀ i : Int, 0 ≤ i → i < n → 0 ≤ M 430 (130 + i) ∧ M 430 (130 + i) ≤ 99) {X Y : Int → Int} (hX0 : ∀ c : Int, n ≤ c → X c = M 439 c) : Con kX11_endOf 0 0 0 [(1, 429), (0, q), (0, (b : Int))] (Sf x y z) (enM M X Y) (Ex (some (0, mxS (hY n (fun i => M 430 (130 + i)) q b n) b)) (Sf x y z) (enM M (hX n q b (fun c => M 439 c) n) (hY n (fun i => M 430 (130 + i)) q b n))) := by
  have h := m_endOf (x := x) (y := y) (z := z) (M := enM M X Y) hb1 hb4 hq0 hq1 (n := n) ((enM_o (by omega)).trans hn) hn8 (by intro i h1 h2; rw [enM_row]; exact hbd i h1 h2)
  rw [enM_row] at h
  rw [show enM (enM M X Y) (hX n q b (fun c => enM M X Y 439 c) n) (hY n (fun i => M 430 (130 + i)) q b n) = enM M (hX n q b (fun c => M 439 c) n) (hY n (fun i => M 430 (130 + i)) q b n) from enM_c (fun a j h1 h2 => enM_o ⟨h1, h2⟩) (fun c q1 q2 => by
    unfold hX
    by_cases hc : (n : Int) - n ≤ c ∧ c < n
    · rw [if_pos hc, if_pos hc]
    · rw [if_neg hc, if_neg hc]
      exact rd_eX ⟨rfl, q1, q2⟩ (hX0 c (by omega))) (fun c _ _ => rfl)] at h
  exact h
def pwI (b : Int) : Nat → Int
  | 0 => 1
  | i + 1 => pwI b i * b
theorem pwI_le {b d : Int} (hb : 0 ≤ b) (hd : b ≤ d) : ∀ i : Nat, 0 ≤ pwI b i ∧ pwI b i ≤ pwI d i := by
  intro i
  induction i with
  | zero => exact (show (0 : Int) ≤ 1 ∧ (1 : Int) ≤ 1 by decide)
  | succ i ih => exact ⟨Int.mul_nonneg ih.1 hb, Int.mul_le_mul ih.2 hd hb (by omega)⟩
theorem pwI_1 {b : Int} (hb : 1 ≤ b) : ∀ i : Nat, 1 ≤ pwI b i := by
  intro i
  induction i with
  | zero => exact (show (1 : Int) ≤ 1 by decide)
  | succ i ih =>
    have h : pwI b i * 1 ≤ pwI b i * b := Int.mul_le_mul_of_nonneg_left hb (by omega)
    unfold pwI; omega
theorem pwI_4 : ∀ i : Nat, i ≤ 8 → pwI 4 i ≤ 65536 := by decide
/-- the best way by hands among the first q codes, and its end -/
def hbS (v : Int → Int) : Nat → Int × Int
  | 0 => (0, 1000000000)
  | q + 1 => if v q < (hbS v q).2 then ((q : Int), v q) else hbS v q
theorem hbS_t {v : Int → Int} {q : Nat} (h : v q < (hbS v q).2) : hbS v (q + 1) = ((q : Int), v q) := if_pos h
theorem hbS_f {v : Int → Int} {q : Nat} (h : ¬ v q < (hbS v q).2) : hbS v (q + 1) = hbS v q := if_neg h
theorem hbS_b {v : Int → Int} {k : Nat} : ∀ q : Nat, q ≤ k → 0 ≤ (hbS v q).1 ∧ (hbS v q).1 ≤ k := by
  intro q
  induction q with
  | zero => intro _; exact (show 0 ≤ (0 : Int) ∧ (0 : Int) ≤ (k : Int) by omega)
  | succ q ih =>
    intro h
    unfold hbS
    split
    · exact (show 0 ≤ (q : Int) ∧ (q : Int) ≤ (k : Int) by omega)
    · exact ih (by omega)
/-- what hands ends with when the boards go by the code q -/
def enV (M : Me) (n b : Nat) (q : Int) : Int := mxS (hY n (fun i => M 430 (130 + i)) q b n) b
theorem l_hands2 {x y z : Int} {M : Me} {b : Nat} (hb1 : 1 ≤ b) (hb4 : b ≤ 4) {n : Nat} (hn : M 430 5 = (n : Int)) (hn8 : n ≤ 8) (hbd : ∀ i : Int, 0 ≤ i → i < n → 0 ≤ M 430 (130 + i) ∧ M 430 (130 + i) ≤ 99) {w : Int} (hw : -1 ≤ w ∧ w < n) {K : Nat} (hK : pwI b n = (K : Int)) (hK2 : K ≤ 65536) : ∀ (m i : Nat), m + i = K → ∀ X Y : Int → Int, (∀ c : Int, n ≤ c → X c = M 439 c) → V kX11_hands 0 0 1 none (fun v9 S9 M9 => S9 = (Sf x y z) ∧ M9 = (enM M (hX n (hbS (enV M n b) (pwI b n).toNat).1 b (fun c => M 439 c) n) (hY n (fun i => M 430 (130 + i)) (hbS (enV M n b) (pwI b n).toNat).1 b n)) ∧ (w = -1 ∧ v9 = some (0, enV M n b (hbS (enV M n b) (pwI b n).toNat).1) ∨ w ≠ -1 ∧ v9 = some (0, dig (hbS (enV M n b) (pwI b n).toNat).1 b (n - 1 - w).toNat))) 65 [(1, 429), (0, (b : Int)), (0, w), (0, (K : Int)), (0, (hbS (enV M n b) i).1), (0, (hbS (enV M n b) i).2), (0, (i : Int)), (9, 0)] [] (Sf x y z) (enM M X Y) 0 0 := by
  intro m
  induction m with
  | zero =>
    intro i hi X Y hX0
    obtain rfl : i = K := by omega
    have hq := hbS_b (v := enV M n b) (k := i) i (by omega)
    have hk9 : (pwI b n).toNat = i := by omega
    rw [hk9]
    refine r_iload dX11_hands_65 rfl ?_
    refine r_iload_n dX11_hands_67 rfl ?_
    refine r_icmp_ge (tgt := 104) dX11_hands_68 (by decide) (fun h68 => ?_) (fun h68 => by exfalso; omega)
    refine r_aload_n dX11_hands_104 rfl (by decide) ?_
    refine r_iload dX11_hands_105 rfl ?_
    refine r_iload_n dX11_hands_107 rfl ?_
    refine r_cv2 dX11_hands_108 clX11_409 sf429 (by decide) (by decide) rfl (by first | decide | omega) (Nat.le_of_ble_eq_true rfl) (m_endOf2 hb1 hb4 (by omega) (by omega) hn hn8 hbd hX0) ⟨Nat.zero_le _, Nat.zero_le _⟩ (fun _ => ?_)
    refine r_istore dX11_hands_111 rfl (by decide) st6 ?_
    refine r_iload_n dX11_hands_113 rfl ?_
    refine r_iconst dX11_hands_114 (by decide) ?_
    refine r_icmp_ne (tgt := 123) dX11_hands_115 (by decide) (fun h115 => ?_) (fun h115 => ?_)
    · refine r_aload_n dX11_hands_123 rfl (by decide) ?_
      refine r_getr (x := 439) dX11_hands_124 flX11_46 sf429 (by decide) (by decide) rfl rfl ?_
      refine r_iload_n dX11_hands_127 rfl ?_
      refine r_iald dX11_hands_128 sf439 (by decide) (by omega) (by omega) (by decide) (rd_eX (by omega) (if_pos (by omega))) ?_
      refine r_iret dX11_hands_129 rfl ?_
      first | exact ⟨rfl, rfl, Or.inl ⟨by omega, rfl⟩⟩ | exact ⟨rfl, rfl, Or.inr ⟨by omega, rfl⟩⟩
    · refine r_iload dX11_hands_118 rfl ?_
      refine r_goto (tgt := 129) dX11_hands_120 (by decide) ?_
      refine r_iret dX11_hands_129 rfl ?_
      first | exact ⟨rfl, rfl, Or.inl ⟨by omega, rfl⟩⟩ | exact ⟨rfl, rfl, Or.inr ⟨by omega, rfl⟩⟩
  | succ m ih =>
    intro i hi X Y hX0
    have hX1 : ∀ c : Int, n ≤ c → hX n i b (fun c => M 439 c) n c = M 439 c := fun c hc => if_neg (by omega)
    refine r_iload dX11_hands_65 rfl ?_
    refine r_iload_n dX11_hands_67 rfl ?_
    refine r_icmp_ge (tgt := 104) dX11_hands_68 (by decide) (fun h68 => by exfalso; omega) (fun h68 => ?_)
    refine r_aload_n dX11_hands_71 rfl (by decide) ?_
    refine r_iload dX11_hands_72 rfl ?_
    refine r_iload_n dX11_hands_74 rfl ?_
    refine r_cv2 dX11_hands_75 clX11_409 sf429 (by decide) (by decide) rfl (by first | decide | omega) (Nat.le_of_ble_eq_true rfl) (m_endOf2 hb1 hb4 (by omega) (by omega) hn hn8 hbd hX0) ⟨Nat.zero_le _, Nat.zero_le _⟩ (fun _ => ?_)
    refine r_istore dX11_hands_78 rfl (by decide) st7 ?_
    refine r_iload dX11_hands_80 rfl ?_
    refine r_iload dX11_hands_82 rfl ?_
    refine r_icmp_lt (tgt := 90) dX11_hands_84 (by decide) (fun h84 => ?_) (fun h84 => ?_)
    · refine r_iload dX11_hands_90 rfl ?_
      refine r_istore dX11_hands_92 rfl (by decide) st5 ?_
      refine r_iload dX11_hands_94 rfl ?_
      refine r_istore dX11_hands_96 rfl (by decide) st4 ?_
      refine r_iinc dX11_hands_98 rfl rfl (by decide) (w32_id (by omega)) st6 ?_
      refine r_goto (tgt := 65) dX11_hands_101 (by decide) ?_
      refine wk7 ?_
      first | exact V.al (by rw [hbS_t (v := enV M n b) h84]; rfl) (ih (i + 1) (by omega) _ _ hX1) | exact V.al (by rw [hbS_f (v := enV M n b) (Int.not_lt.mpr h84)]; rfl) (ih (i + 1) (by omega) _ _ hX1)
    · refine r_goto (tgt := 98) dX11_hands_87 (by decide) ?_
      refine r_iinc dX11_hands_98 rfl rfl (by decide) (w32_id (by omega)) st6 ?_
      refine r_goto (tgt := 65) dX11_hands_101 (by decide) ?_
      refine wk7 ?_
      first | exact V.al (by rw [hbS_t (v := enV M n b) h84]; rfl) (ih (i + 1) (by omega) _ _ hX1) | exact V.al (by rw [hbS_f (v := enV M n b) (Int.not_lt.mpr h84)]; rfl) (ih (i + 1) (by omega) _ _ hX1)
theorem l_hands1 {x y z : Int} {M : Me} {b : Nat} (hb1 : 1 ≤ b) (hb4 : b ≤ 4) {n : Nat} (hn : M 430 5 = (n : Int)) (hn8 : n ≤ 8) (hbd : ∀ i : Int, 0 ≤ i → i < n → 0 ≤ M 430 (130 + i) ∧ M 430 (130 + i) ≤ 99) {w : Int} (hw : -1 ≤ w ∧ w < n) : ∀ (m i : Nat), m + i = n → V kX11_hands 0 0 1 none (fun v9 S9 M9 => S9 = (Sf x y z) ∧ M9 = (enM M (hX n (hbS (enV M n b) (pwI b n).toNat).1 b (fun c => M 439 c) n) (hY n (fun i => M 430 (130 + i)) (hbS (enV M n b) (pwI b n).toNat).1 b n)) ∧ (w = -1 ∧ v9 = some (0, enV M n b (hbS (enV M n b) (pwI b n).toNat).1) ∨ w ≠ -1 ∧ v9 = some (0, dig (hbS (enV M n b) (pwI b n).toNat).1 b (n - 1 - w).toNat))) 33 [(1, 429), (0, (b : Int)), (0, w), (0, pwI b i), (0, (i : Int)), (9, 0), (9, 0), (9, 0)] [] (Sf x y z) M 0 0 := by
  intro m
  induction m with
  | zero =>
    intro i hi
    obtain rfl : i = n := by omega
    have hp1 := pwI_1 (b := (b : Int)) (by omega) i
    have hp2 := pwI_le (b := (b : Int)) (d := 4) (by omega) (by omega) i
    have hp3 := pwI_4 i (by omega)
    obtain ⟨K, hk⟩ : ∃ K : Nat, pwI b i = (K : Int) := ⟨(pwI b i).toNat, by omega⟩
    refine r_iload dX11_hands_33 rfl ?_
    refine r_aload_n dX11_hands_35 rfl (by decide) ?_
    refine r_getr (x := 430) dX11_hands_36 flX11_7 sf429 (by decide) (by decide) rfl rfl ?_
    refine r_iconst dX11_hands_39 (by decide) ?_
    refine r_iald dX11_hands_40 sf430 (by decide) (by omega) (by omega) (by decide) hn ?_
    refine r_icmp_ge (tgt := 54) dX11_hands_41 (by decide) (fun h41 => ?_) (fun h41 => by exfalso; omega)
    refine r_iconst dX11_hands_54 (by decide) ?_
    refine r_istore dX11_hands_55 rfl (by decide) st4 ?_
    refine r_ldcw (x := 1000000000) dX11_hands_57 ctX11_408 (by decide) ?_
    refine r_istore dX11_hands_60 rfl (by decide) st5 ?_
    refine r_iconst dX11_hands_62 (by decide) ?_
    refine r_istore dX11_hands_63 rfl (by decide) st6 ?_
    refine V.cm rfl (enM_id (M := M)) ?_
    exact V.al (show _ = [(1, 429), (0, (b : Int)), (0, w), (0, (K : Int)), (0, 0), (0, 1000000000), (0, 0), (9, 0)] by rw [hk]) (l_hands2 hb1 hb4 hn hn8 hbd hw hk (by omega) K 0 (by omega) (fun c => M 439 c) (fun c => M 438 c) (fun c _ => rfl))
  | succ m ih =>
    intro i hi
    have hp2 := pwI_le (b := (b : Int)) (d := 4) (by omega) (by omega) (i + 1)
    have hp3 := pwI_4 (i + 1) (by omega)
    have hp4 : pwI b (i + 1) = pwI b i * b := rfl
    refine r_iload dX11_hands_33 rfl ?_
    refine r_aload_n dX11_hands_35 rfl (by decide) ?_
    refine r_getr (x := 430) dX11_hands_36 flX11_7 sf429 (by decide) (by decide) rfl rfl ?_
    refine r_iconst dX11_hands_39 (by decide) ?_
    refine r_iald dX11_hands_40 sf430 (by decide) (by omega) (by omega) (by decide) hn ?_
    refine r_icmp_ge (tgt := 54) dX11_hands_41 (by decide) (fun h41 => by exfalso; omega) (fun h41 => ?_)
    refine r_iload_n dX11_hands_44 rfl ?_
    refine r_iload_n dX11_hands_45 rfl ?_
    refine r_imul dX11_hands_46 (w32_id (by omega)) ?_
    refine r_istore_n dX11_hands_47 rfl (by decide) st3 ?_
    refine r_iinc dX11_hands_48 rfl rfl (by decide) (w32_id (by omega)) st4 ?_
    refine r_goto (tgt := 33) dX11_hands_51 (by decide) ?_
    exact ih (i + 1) (by omega)
theorem m_hands {x y z : Int} {M : Me} {b : Int} {w : Int} {n : Nat} (hn : M 430 5 = (n : Int)) (hn8 : n ≤ 8) (hbd : ∀ i : Int, 0 ≤ i → i < n → 0 ≤ M 430 (130 + i) ∧ M 430 (130 + i) ≤ 99) : Con kX11_hands 1 0 0 [(1, 429), (0, b), (0, w)] (Sf x y z) M (fun v9 S9 M9 => S9 = (Sf x y z) ∧ (((1 ≤ b ∧ b ≤ 4) ∧ (-1 ≤ w ∧ w ≤ M 430 5 - 1)) ∧ (∃ k : Nat, b = (k : Int) ∧ M9 = (enM M (hX n (hbS (enV M n k) (pwI k n).toNat).1 k (fun c => M 439 c) n) (hY n (fun i => M 430 (130 + i)) (hbS (enV M n k) (pwI k n).toNat).1 k n)) ∧ (w = -1 ∧ v9 = some (0, enV M n k (hbS (enV M n k) (pwI k n).toNat).1) ∨ w ≠ -1 ∧ v9 = some (0, dig (hbS (enV M n k) (pwI k n).toNat).1 k (n - 1 - w).toNat))) ∨ ¬ ((1 ≤ b ∧ b ≤ 4) ∧ (-1 ≤ w ∧ w ≤ M 430 5 - 1)) ∧ v9 = some (0, -2) ∧ M9 = M)) := by
  refine Con.ofV (al := [(1, 429), (0, b), (0, w), (9, 0), (9, 0), (9, 0), (9, 0), (9, 0)]) 5 (by decide) (Nat.le_of_ble_eq_true rfl) rfl ?_
  refine r_iload_n dX11_hands_0 rfl ?_
  refine r_iconst dX11_hands_1 (by decide) ?_
  refine r_iconst dX11_hands_2 (by decide) ?_
  refine r_cs3 dX11_hands_3 clX11_62 (by first | decide | omega) (Nat.le_of_ble_eq_true rfl) (c_isIn) ⟨Nat.zero_le _, Nat.zero_le _⟩ (fun _ => ?_)
  refine r_if_eq (tgt := 25) dX11_hands_6 (by decide) (fun h6 => ?_) (fun h6 => ?_)
  · try have h6 := bi_0.mp h6
    refine r_bipush dX11_hands_25 (by decide) (by decide) ?_
    refine r_iret dX11_hands_27 rfl ?_
    exact ⟨rfl, Or.inr ⟨by omega, rfl, rfl⟩⟩
  · try have h6 := bi_1.mp h6
    refine r_iload_n dX11_hands_9 rfl ?_
    refine r_iconst dX11_hands_10 (by decide) ?_
    refine r_aload_n dX11_hands_11 rfl (by decide) ?_
    refine r_getr (x := 430) dX11_hands_12 flX11_7 sf429 (by decide) (by decide) rfl rfl ?_
    refine r_iconst dX11_hands_15 (by decide) ?_
    refine r_iald dX11_hands_16 sf430 (by decide) (by omega) (by omega) (by decide) hn ?_
    refine r_iconst dX11_hands_17 (by decide) ?_
    refine r_isub dX11_hands_18 (w32_id (by omega)) ?_
    refine r_cs3 dX11_hands_19 clX11_62 (by first | decide | omega) (Nat.le_of_ble_eq_true rfl) (c_isIn) ⟨Nat.zero_le _, Nat.zero_le _⟩ (fun _ => ?_)
    refine r_if_ne (tgt := 28) dX11_hands_22 (by decide) (fun h22 => ?_) (fun h22 => ?_)
    · try have h22 := bi_1.mp h22
      refine r_iconst dX11_hands_28 (by decide) ?_
      refine r_istore_n dX11_hands_29 rfl (by decide) st3 ?_
      refine r_iconst dX11_hands_30 (by decide) ?_
      refine r_istore dX11_hands_31 rfl (by decide) st4 ?_
      obtain ⟨k, rfl⟩ : ∃ k : Nat, b = (k : Int) := ⟨b.toNat, by omega⟩
      exact V.mono (l_hands1 (b := k) (by omega) (by omega) hn hn8 hbd (by omega) n 0 (by omega)) (fun v9 S9 M9 q => ⟨q.1, Or.inl ⟨by omega, k, rfl, q.2⟩⟩)
    · try have h22 := bi_0.mp h22
      refine r_bipush dX11_hands_25 (by decide) (by decide) ?_
      refine r_iret dX11_hands_27 rfl ?_
      exact ⟨rfl, Or.inr ⟨by omega, rfl, rfl⟩⟩
