/-- the soonest, the best, the ends and the laid -/
def laM (M : Me) (s : Int) (B E L : Int → Int) : Me := row1 (row1 (row1 (up M 4 0 s) 5 8 B) 6 4 E) 7 8 L
theorem laM_o {M : Me} {s : Int} {B E L : Int → Int} {a j : Int} (h : ¬ (a = 4 ∧ j = 0) ∧ ¬ (a = 5 ∧ 0 ≤ j ∧ j < 8) ∧ ¬ (a = 6 ∧ 0 ≤ j ∧ j < 4) ∧ ¬ (a = 7 ∧ 0 ≤ j ∧ j < 8)) : laM M s B E L a j = M a j := (row1_o h.2.2.2).trans ((row1_o h.2.2.1).trans ((row1_o h.2.1).trans (up_ne h.1)))
theorem laM_0 {M : Me} {s : Int} {B E L : Int → Int} : laM M s B E L 4 0 = s := (row1_o (by omega)).trans ((row1_o (by omega)).trans ((row1_o (by omega)).trans (up_eq ⟨rfl, rfl⟩)))
theorem laM_B {M : Me} {s : Int} {B E L : Int → Int} {j : Int} (h : 0 ≤ j ∧ j < 8) : laM M s B E L 5 j = B j := (row1_o (by omega)).trans ((row1_o (by omega)).trans (rd_rX ⟨rfl, h⟩ rfl))
theorem laM_E {M : Me} {s : Int} {B E L : Int → Int} {j : Int} (h : 0 ≤ j ∧ j < 4) : laM M s B E L 6 j = E j := (row1_o (by omega)).trans (rd_rX ⟨rfl, h⟩ rfl)
theorem laM_L {M : Me} {s : Int} {B E L : Int → Int} {j : Int} (h : 0 ≤ j ∧ j < 8) : laM M s B E L 7 j = L j := rd_rX ⟨rfl, h⟩ rfl
theorem laM_c {M N : Me} {s : Int} {B E L : Int → Int} (h0 : N 4 0 = s) (hB : ∀ c, 0 ≤ c → c < 8 → N 5 c = B c) (hE : ∀ c, 0 ≤ c → c < 4 → N 6 c = E c) (hL : ∀ c, 0 ≤ c → c < 8 → N 7 c = L c) (ho : ∀ a j : Int, ¬ (a = 4 ∧ j = 0) → ¬ (a = 5 ∧ 0 ≤ j ∧ j < 8) → ¬ (a = 6 ∧ 0 ≤ j ∧ j < 4) → ¬ (a = 7 ∧ 0 ≤ j ∧ j < 8) → N a j = M a j) : N = laM M s B E L := by
  funext a j
  by_cases h1 : a = 4 ∧ j = 0
  · obtain ⟨rfl, rfl⟩ := h1; rw [laM_0]; exact h0
  · by_cases h2 : a = 5 ∧ 0 ≤ j ∧ j < 8
    · obtain ⟨rfl, h2⟩ := h2; rw [laM_B h2]; exact hB j h2.1 h2.2
    · by_cases h3 : a = 6 ∧ 0 ≤ j ∧ j < 4
      · obtain ⟨rfl, h3⟩ := h3; rw [laM_E h3]; exact hE j h3.1 h3.2
      · by_cases h4 : a = 7 ∧ 0 ≤ j ∧ j < 8
        · obtain ⟨rfl, h4⟩ := h4; rw [laM_L h4]; exact hL j h4.1 h4.2
        · rw [laM_o ⟨h1, h2, h3, h4⟩]; exact ho a j h1 h2 h3 h4
theorem laM_us {M : Me} {s s' : Int} {B E L : Int → Int} : up (laM M s B E L) 4 0 s' = laM M s' B E L := laM_c (up_eq ⟨rfl, rfl⟩) (fun c h0 h1 => (up_ne (by omega)).trans (laM_B ⟨h0, h1⟩)) (fun c h0 h1 => (up_ne (by omega)).trans (laM_E ⟨h0, h1⟩)) (fun c h0 h1 => (up_ne (by omega)).trans (laM_L ⟨h0, h1⟩)) (fun a j h1 h2 h3 h4 => (up_ne h1).trans (laM_o ⟨h1, h2, h3, h4⟩))
theorem laM_uE {M : Me} {s y v : Int} {B E L : Int → Int} (hy : 0 ≤ y ∧ y < 4) : up (laM M s B E L) 6 y v = laM M s B (upf E y v) L := laM_c ((up_ne (by omega)).trans laM_0) (fun c h0 h1 => (up_ne (by omega)).trans (laM_B ⟨h0, h1⟩)) (fun c h0 h1 => by
  unfold upf
  by_cases e : c = y
  · rw [if_pos e, up_eq ⟨rfl, e⟩]
  · rw [if_neg e, up_ne (fun q => e q.2), laM_E ⟨h0, h1⟩]) (fun c h0 h1 => (up_ne (by omega)).trans (laM_L ⟨h0, h1⟩)) (fun a j h1 h2 h3 h4 => (up_ne (by omega)).trans (laM_o ⟨h1, h2, h3, h4⟩))
theorem laM_uL {M : Me} {s y v : Int} {B E L : Int → Int} (hy : 0 ≤ y ∧ y < 8) : up (laM M s B E L) 7 y v = laM M s B E (upf L y v) := laM_c ((up_ne (by omega)).trans laM_0) (fun c h0 h1 => (up_ne (by omega)).trans (laM_B ⟨h0, h1⟩)) (fun c h0 h1 => (up_ne (by omega)).trans (laM_E ⟨h0, h1⟩)) (fun c h0 h1 => by
  unfold upf
  by_cases e : c = y
  · rw [if_pos e, up_eq ⟨rfl, e⟩]
  · rw [if_neg e, up_ne (fun q => e q.2), laM_L ⟨h0, h1⟩]) (fun a j h1 h2 h3 h4 => (up_ne (by omega)).trans (laM_o ⟨h1, h2, h3, h4⟩))
theorem laM_cB {M : Me} {s : Int} {B E L : Int → Int} : cpy (laM M s B E L) 7 0 5 0 8 = laM M s L E L := laM_c ((cpy_out (by omega)).trans laM_0) (fun c h0 h1 => (cpy_in (by omega)).trans (by rw [show 0 + (c - 0) = c by omega]; exact laM_L ⟨h0, h1⟩)) (fun c h0 h1 => (cpy_out (by omega)).trans (laM_E ⟨h0, h1⟩)) (fun c h0 h1 => (cpy_out (by omega)).trans (laM_L ⟨h0, h1⟩)) (fun a j h1 h2 h3 h4 => (cpy_out (by omega)).trans (laM_o ⟨h1, h2, h3, h4⟩))
theorem laM_back {M : Me} {s y v w : Int} {B E L : Int → Int} (hw : w = E y) : laM M s B (upf (upf E y v) y w) L = laM M s B E L := by
  congr 1
  funext c
  unfold upf
  by_cases e : c = y
  · rw [if_pos e, e, hw]
  · rw [if_neg e, if_neg e]
abbrev LS3 := Int × (Int → Int) × (Int → Int)
def hlp (f : Int → LS3 → LS3) : Nat → LS3 → LS3
  | 0, s => s
  | h + 1, s => f (h : Int) (hlp f h s)
/-- the last k of n pieces of work laid: hr the hours, hd the hands; u used, e the end, E the ends; the soonest, the best, the laid -/
def lf3 (hr : Int → Int) (hd : Int) (n : Nat) : Nat → Int → Int → (Int → Int) → LS3 → LS3
  | 0, _, e, _, s => if s.1 ≤ e then s else (e, s.2.2, s.2.2)
  | k + 1, u, e, E, s => if s.1 ≤ e then s else hlp (fun h s => if h ≤ u ∧ h < hd then lf3 hr hd n k (max u (h + 1)) (max e (E h + hr ((n : Int) - k - 1))) (upf E h (E h + hr ((n : Int) - k - 1))) (s.1, s.2.1, upf s.2.2 ((n : Int) - k - 1) h) else s) 4 s
def lfh (hr : Int → Int) (hd : Int) (n k : Nat) (u e : Int) (E : Int → Int) (h : Int) (s : LS3) : LS3 := if h ≤ u ∧ h < hd then lf3 hr hd n k (max u (h + 1)) (max e (E h + hr ((n : Int) - k - 1))) (upf E h (E h + hr ((n : Int) - k - 1))) (s.1, s.2.1, upf s.2.2 ((n : Int) - k - 1) h) else s
theorem lf3_s {hr : Int → Int} {hd : Int} {n k : Nat} {u e : Int} {E : Int → Int} {s : LS3} (h : ¬ s.1 ≤ e) : lf3 hr hd n (k + 1) u e E s = hlp (lfh hr hd n k u e E) 4 s := if_neg h
theorem lf3_e {hr : Int → Int} {hd : Int} {n k : Nat} {u e : Int} {E : Int → Int} {s : LS3} (h : s.1 ≤ e) : lf3 hr hd n k u e E s = s := by
  cases k with
  | zero => exact if_pos h
  | succ k => exact if_pos h
theorem hlp_n {hr : Int → Int} {hd : Int} {n k : Nat} {u e : Int} {E : Int → Int} {s : LS3} {h : Nat} (q : ¬ ((h : Int) ≤ u ∧ (h : Int) < hd)) : ∀ m : Nat, hlp (lfh hr hd n k u e E) (h + m) s = hlp (lfh hr hd n k u e E) h s := by
  intro m
  induction m with
  | zero => rfl
  | succ m ih =>
    have e1 : hlp (lfh hr hd n k u e E) (h + (m + 1)) s = lfh hr hd n k u e E ((h + m : Nat) : Int) (hlp (lfh hr hd n k u e E) (h + m) s) := rfl
    rw [e1, ih]
    exact if_neg (by omega)
set_option maxHeartbeats 1000000 in
theorem c_layFrom {x y : Int} {M : Me} {n : Nat} (hn : M 219 0 = (n : Int)) (hn8 : n ≤ 8) {hd : Int} (hh : M 4 3 = hd) (hd4 : 1 ≤ hd ∧ hd ≤ 4) (hw : ∀ j : Int, 0 ≤ j → j < n → 0 ≤ M 220 j ∧ M 220 j ≤ 99) : ∀ (k : Nat) (i u e : Int) (E : Int → Int) (s : LS3), i + k = n → 0 ≤ i → 0 ≤ u ∧ u ≤ 4 → 0 ≤ e ∧ e ≤ 1000 → (∀ j : Int, 0 ≤ j → j < 4 → 0 ≤ E j ∧ E j ≤ 1000 - 100 * k) → Con kX2_layFrom (k + 2) 0 0 [(1, 4), (0, i), (0, u), (0, e)] (Sf x y 219) (laM M (s).1 (s).2.1 E (s).2.2) (Ex none (Sf x y 219) (laM M (lf3 (fun j : Int => M 220 j) hd n k u e E s).1 (lf3 (fun j : Int => M 220 j) hd n k u e E s).2.1 E (lf3 (fun j : Int => M 220 j) hd n k u e E s).2.2)) := by
  intro k
  induction k with
  | zero =>
    intro i u e E s hi h0 hu he hE
    refine Con.ofV (al := [(1, 4), (0, i), (0, u), (0, e), (9, 0), (9, 0)]) 2 (by decide) (Nat.le_of_ble_eq_true rfl) rfl ?_
    refine r_iload_n dX2_layFrom_0 rfl ?_
    refine r_aload_n dX2_layFrom_1 rfl (by decide) ?_
    refine r_gi 0 dX2_layFrom_2 flX2_36 sf4 (by decide) (by decide) rfl rfl laM_0 ?_
    refine r_icmp_lt (tgt := 9) dX2_layFrom_5 (by decide) (fun h5 => ?_) (fun h5 => ?_)
    · refine r_iload_n dX2_layFrom_9 rfl ?_
      refine r_aload_n dX2_layFrom_10 rfl (by decide) ?_
      refine r_getr (x := 219) dX2_layFrom_11 flX2_21 sf4 (by decide) (by decide) rfl rfl ?_
      refine r_gi 0 dX2_layFrom_14 flX2_43 sf219 (by decide) (by decide) rfl rfl ((laM_o (by omega)).trans hn) ?_
      refine r_icmp_ge (tgt := 26) dX2_layFrom_17 (by decide) (fun h17 => ?_) (fun h17 => by exfalso; omega)
      refine r_aload_n dX2_layFrom_26 rfl (by decide) ?_
      refine r_iload_n dX2_layFrom_27 rfl ?_
      refine r_pi 0 dX2_layFrom_28 fpX2_36 sf4 (by decide) (by decide) rfl rfl ?_
      refine V.cm rfl laM_us ?_
      refine r_aload_n dX2_layFrom_31 rfl (by decide) ?_
      refine r_getr (x := 7) dX2_layFrom_32 flX2_18 sf4 (by decide) (by decide) rfl rfl ?_
      refine r_iconst dX2_layFrom_35 (by decide) ?_
      refine r_aload_n dX2_layFrom_36 rfl (by decide) ?_
      refine r_getr (x := 5) dX2_layFrom_37 flX2_9 sf4 (by decide) (by decide) rfl rfl ?_
      refine r_iconst dX2_layFrom_40 (by decide) ?_
      refine r_bipush dX2_layFrom_41 (by decide) (by decide) ?_
      refine r_copy dX2_layFrom_43 clX2_48 ay_2 ay_1 ii_System (by first | decide | omega) (Nat.le_of_ble_eq_true rfl) sf7 sf5 (by decide) (by decide) (by omega) (by omega) (by omega) (by omega) (by omega) (by first | decide | omega) (by first | decide | omega) rfl ?_
      refine V.cm rfl laM_cB ?_
      refine r_ret0 dX2_layFrom_46 rfl ?_
      exact ⟨rfl, rfl, by rw [show lf3 (fun j : Int => M 220 j) hd n 0 u e E s = (e, s.2.2, s.2.2) from if_neg (by omega)]⟩
    · refine r_ret0 dX2_layFrom_8 rfl ?_
      exact ⟨rfl, rfl, by rw [show lf3 (fun j : Int => M 220 j) hd n 0 u e E s = s from if_pos (by omega)]⟩
  | succ k ih =>
    intro i u e E s hi h0 hu he hE
    obtain rfl : i = (n : Int) - k - 1 := by omega
    have hwi := hw ((n : Int) - k - 1) (by omega) (by omega)
    refine Con.ofV (al := [(1, 4), (0, (n : Int) - k - 1), (0, u), (0, e), (9, 0), (9, 0)]) 2 (by decide) (Nat.le_of_ble_eq_true rfl) rfl ?_
    by_cases hs : s.1 ≤ e
    · rw [lf3_e hs]
      refine r_iload_n dX2_layFrom_0 rfl ?_
      refine r_aload_n dX2_layFrom_1 rfl (by decide) ?_
      refine r_gi 0 dX2_layFrom_2 flX2_36 sf4 (by decide) (by decide) rfl rfl laM_0 ?_
      refine r_icmp_lt (tgt := 9) dX2_layFrom_5 (by decide) (fun h5 => by exfalso; omega) (fun h5 => ?_)
      refine r_ret0 dX2_layFrom_8 rfl ?_
      exact ⟨rfl, rfl, rfl⟩
    · rw [lf3_s hs]
      have hlo : ∀ (q h : Nat), q + h = 4 → V kX2_layFrom 0 0 (k + 1 + 2) none (Ex none (Sf x y 219) (laM M (hlp (lfh (fun j : Int => M 220 j) hd n k u e E) 4 s).1 (hlp (lfh (fun j : Int => M 220 j) hd n k u e E) 4 s).2.1 E (hlp (lfh (fun j : Int => M 220 j) hd n k u e E) 4 s).2.2)) 61 [(1, 4), (0, (n : Int) - k - 1), (0, u), (0, e), (0, M 220 ((n : Int) - k - 1)), (0, (h : Int))] [] (Sf x y 219) (laM M (hlp (lfh (fun j : Int => M 220 j) hd n k u e E) h s).1 (hlp (lfh (fun j : Int => M 220 j) hd n k u e E) h s).2.1 E (hlp (lfh (fun j : Int => M 220 j) hd n k u e E) h s).2.2) 0 0 := by
        intro q
        induction q with
        | zero =>
          intro h hq
          obtain rfl : h = 4 := by omega
          refine r_iload dX2_layFrom_61 rfl ?_
          refine r_iload_n dX2_layFrom_63 rfl ?_
          refine r_icmp_gt (tgt := 140) dX2_layFrom_64 (by decide) (fun h64 => ?_) (fun h64 => ?_)
          · refine r_ret0 dX2_layFrom_140 rfl ?_
            exact ⟨rfl, rfl, rfl⟩
          · refine r_iload dX2_layFrom_67 rfl ?_
            refine r_aload_n dX2_layFrom_69 rfl (by decide) ?_
            refine r_gi 3 dX2_layFrom_70 flX2_31 sf4 (by decide) (by decide) rfl rfl ((laM_o (by omega)).trans hh) ?_
            refine r_icmp_ge (tgt := 140) dX2_layFrom_73 (by decide) (fun h73 => ?_) (fun h73 => by exfalso; omega)
            refine r_ret0 dX2_layFrom_140 rfl ?_
            exact ⟨rfl, rfl, rfl⟩
        | succ q ihq =>
          intro h hq
          have hEh := hE (h : Int) (by omega) (by omega)
          by_cases hv : (h : Int) ≤ u ∧ (h : Int) < hd
          · have r1 := ih ((n : Int) - k - 1 + 1) (max u ((h : Int) + 1)) (max e (E (h : Int) + M 220 ((n : Int) - k - 1))) (upf E (h : Int) (E (h : Int) + M 220 ((n : Int) - k - 1))) ((hlp (lfh (fun j : Int => M 220 j) hd n k u e E) h s).1, (hlp (lfh (fun j : Int => M 220 j) hd n k u e E) h s).2.1, upf (hlp (lfh (fun j : Int => M 220 j) hd n k u e E) h s).2.2 ((n : Int) - k - 1) h) (by omega) (by omega) (by omega) (by omega) (fun j g0 g1 => by have := hE j g0 g1; unfold upf; split <;> omega)
            have e1 : hlp (lfh (fun j : Int => M 220 j) hd n k u e E) (h + 1) s = lf3 (fun j : Int => M 220 j) hd n k (max u ((h : Int) + 1)) (max e (E (h : Int) + M 220 ((n : Int) - k - 1))) (upf E (h : Int) (E (h : Int) + M 220 ((n : Int) - k - 1))) ((hlp (lfh (fun j : Int => M 220 j) hd n k u e E) h s).1, (hlp (lfh (fun j : Int => M 220 j) hd n k u e E) h s).2.1, upf (hlp (lfh (fun j : Int => M 220 j) hd n k u e E) h s).2.2 ((n : Int) - k - 1) h) := if_pos hv
            have ihq9 := ihq (h + 1) (by omega)
            refine r_iload dX2_layFrom_61 rfl ?_
            refine r_iload_n dX2_layFrom_63 rfl ?_
            refine r_icmp_gt (tgt := 140) dX2_layFrom_64 (by decide) (fun h64 => by exfalso; omega) (fun h64 => ?_)
            refine r_iload dX2_layFrom_67 rfl ?_
            refine r_aload_n dX2_layFrom_69 rfl (by decide) ?_
            refine r_gi 3 dX2_layFrom_70 flX2_31 sf4 (by decide) (by decide) rfl rfl ((laM_o (by omega)).trans hh) ?_
            refine r_icmp_ge (tgt := 140) dX2_layFrom_73 (by decide) (fun h73 => by exfalso; omega) (fun h73 => ?_)
            refine r_aload_n dX2_layFrom_76 rfl (by decide) ?_
            refine r_getr (x := 7) dX2_layFrom_77 flX2_18 sf4 (by decide) (by decide) rfl rfl ?_
            refine r_iload_n dX2_layFrom_80 rfl ?_
            refine r_iload dX2_layFrom_81 rfl ?_
            refine r_iast dX2_layFrom_83 sf7 (by decide) (by omega) (by omega) (by decide) rfl ?_
            refine V.cm rfl (laM_uL (by omega)) ?_
            refine r_aload_n dX2_layFrom_84 rfl (by decide) ?_
            refine r_getr (x := 6) dX2_layFrom_85 flX2_15 sf4 (by decide) (by decide) rfl rfl ?_
            refine r_iload dX2_layFrom_88 rfl ?_
            refine r_dup2 dX2_layFrom_90 (Nat.ne_of_beq_eq_false rfl) (Nat.ne_of_beq_eq_false rfl) ?_
            refine r_iald dX2_layFrom_91 sf6 (by decide) (by omega) (by omega) (by decide) (laM_E (by omega)) ?_
            refine r_iload dX2_layFrom_92 rfl ?_
            refine r_iadd dX2_layFrom_94 (w32_id (by omega)) ?_
            refine r_iast dX2_layFrom_95 sf6 (by decide) (by omega) (by omega) (by decide) rfl ?_
            refine V.cm rfl (laM_uE (by omega)) ?_
            refine r_aload_n dX2_layFrom_96 rfl (by decide) ?_
            refine r_iload_n dX2_layFrom_97 rfl ?_
            refine r_iconst dX2_layFrom_98 (by decide) ?_
            refine r_iadd dX2_layFrom_99 (w32_id (by omega)) ?_
            refine r_iload_n dX2_layFrom_100 rfl ?_
            refine r_iload dX2_layFrom_101 rfl ?_
            refine r_iconst dX2_layFrom_103 (by decide) ?_
            refine r_iadd dX2_layFrom_104 (w32_id (by omega)) ?_
            refine r_mmax dX2_layFrom_105 clmX2_57 ma_max1 ii_Math ma_max2 (by first | decide | omega) (Nat.le_of_ble_eq_true rfl) rfl ?_
            refine r_iload_n dX2_layFrom_108 rfl ?_
            refine r_aload_n dX2_layFrom_109 rfl (by decide) ?_
            refine r_getr (x := 6) dX2_layFrom_110 flX2_15 sf4 (by decide) (by decide) rfl rfl ?_
            refine r_iload dX2_layFrom_113 rfl ?_
            refine r_iald dX2_layFrom_115 sf6 (by decide) (by omega) (by omega) (by decide) ((laM_E (by omega)).trans (if_pos rfl)) ?_
            refine r_mmax dX2_layFrom_116 clmX2_57 ma_max1 ii_Math ma_max2 (by first | decide | omega) (Nat.le_of_ble_eq_true rfl) rfl ?_
            refine r_cu4 dX2_layFrom_119 clX2_39 (by first | decide | omega) (Nat.le_of_ble_eq_true rfl) (r1) ⟨Nat.zero_le _, Nat.zero_le _⟩ ?_
            rw [← e1]
            refine r_aload_n dX2_layFrom_122 rfl (by decide) ?_
            refine r_getr (x := 6) dX2_layFrom_123 flX2_15 sf4 (by decide) (by decide) rfl rfl ?_
            refine r_iload dX2_layFrom_126 rfl ?_
            refine r_dup2 dX2_layFrom_128 (Nat.ne_of_beq_eq_false rfl) (Nat.ne_of_beq_eq_false rfl) ?_
            refine r_iald dX2_layFrom_129 sf6 (by decide) (by omega) (by omega) (by decide) ((laM_E (by omega)).trans (if_pos rfl)) ?_
            refine r_iload dX2_layFrom_130 rfl ?_
            refine r_isub dX2_layFrom_132 (w32_id (by omega)) ?_
            refine r_iast dX2_layFrom_133 sf6 (by decide) (by omega) (by omega) (by decide) rfl ?_
            refine V.cm rfl ((laM_uE (by omega)).trans (laM_back (by omega))) ?_
            refine r_iinc dX2_layFrom_134 rfl rfl (by decide) (w32_id (by omega)) st5 ?_
            refine r_goto (tgt := 61) dX2_layFrom_137 (by decide) ?_
            exact ihq9
          · have e2 := hlp_n (hr := (fun j : Int => M 220 j)) (hd := hd) (n := n) (k := k) (u := u) (e := e) (E := E) (s := s) hv (4 - h)
            rw [show h + (4 - h) = 4 by omega] at e2
            rw [e2]
            refine r_iload dX2_layFrom_61 rfl ?_
            refine r_iload_n dX2_layFrom_63 rfl ?_
            refine r_icmp_gt (tgt := 140) dX2_layFrom_64 (by decide) (fun h64 => ?_) (fun h64 => ?_)
            · refine r_ret0 dX2_layFrom_140 rfl ?_
              exact ⟨rfl, rfl, rfl⟩
            · refine r_iload dX2_layFrom_67 rfl ?_
              refine r_aload_n dX2_layFrom_69 rfl (by decide) ?_
              refine r_gi 3 dX2_layFrom_70 flX2_31 sf4 (by decide) (by decide) rfl rfl ((laM_o (by omega)).trans hh) ?_
              refine r_icmp_ge (tgt := 140) dX2_layFrom_73 (by decide) (fun h73 => ?_) (fun h73 => by exfalso; omega)
              refine r_ret0 dX2_layFrom_140 rfl ?_
              exact ⟨rfl, rfl, rfl⟩
      refine r_iload_n dX2_layFrom_0 rfl ?_
      refine r_aload_n dX2_layFrom_1 rfl (by decide) ?_
      refine r_gi 0 dX2_layFrom_2 flX2_36 sf4 (by decide) (by decide) rfl rfl laM_0 ?_
      refine r_icmp_lt (tgt := 9) dX2_layFrom_5 (by decide) (fun h5 => ?_) (fun h5 => by exfalso; omega)
      refine r_iload_n dX2_layFrom_9 rfl ?_
      refine r_aload_n dX2_layFrom_10 rfl (by decide) ?_
      refine r_getr (x := 219) dX2_layFrom_11 flX2_21 sf4 (by decide) (by decide) rfl rfl ?_
      refine r_gi 0 dX2_layFrom_14 flX2_43 sf219 (by decide) (by decide) rfl rfl ((laM_o (by omega)).trans hn) ?_
      refine r_icmp_ge (tgt := 26) dX2_layFrom_17 (by decide) (fun h17 => by exfalso; omega) (fun h17 => ?_)
      refine r_iload_n dX2_layFrom_20 rfl ?_
      refine r_bipush dX2_layFrom_21 (by decide) (by decide) ?_
      refine r_icmp_lt (tgt := 47) dX2_layFrom_23 (by decide) (fun h23 => ?_) (fun h23 => by exfalso; omega)
      refine r_aload_n dX2_layFrom_47 rfl (by decide) ?_
      refine r_getr (x := 219) dX2_layFrom_48 flX2_21 sf4 (by decide) (by decide) rfl rfl ?_
      refine r_getr (x := 220) dX2_layFrom_51 flX2_54 sf219 (by decide) (by decide) rfl rfl ?_
      refine r_iload_n dX2_layFrom_54 rfl ?_
      refine r_iald dX2_layFrom_55 sf220 (by decide) (by omega) (by omega) (by decide) (laM_o (by omega)) ?_
      refine r_istore dX2_layFrom_56 rfl (by decide) st4 ?_
      refine r_iconst dX2_layFrom_58 (by decide) ?_
      refine r_istore dX2_layFrom_59 rfl (by decide) st5 ?_
      exact hlo 4 0 rfl
def haM (M : Me) (n : Nat) (q : Int) : Me := laM (up M 4 3 q) (lf3 (fun j : Int => M 220 j) q n n 0 0 (fun _ => 0) (1000000, (fun j => M 5 j), (fun j => M 7 j))).1 (lf3 (fun j : Int => M 220 j) q n n 0 0 (fun _ => 0) (1000000, (fun j => M 5 j), (fun j => M 7 j))).2.1 (fun _ => 0) (lf3 (fun j : Int => M 220 j) q n n 0 0 (fun _ => 0) (1000000, (fun j => M 5 j), (fun j => M 7 j))).2.2
theorem la_i {M : Me} {q : Int} {i : Nat} (h : i < 4) : up (laM (up M 4 3 q) 1000000 (fun j => M 5 j) (fun j => if j < (i : Int) then 0 else M 6 j) (fun j => M 7 j)) 6 (i : Int) 0 = laM (up M 4 3 q) 1000000 (fun j => M 5 j) (fun j => if j < ((i + 1 : Nat) : Int) then 0 else M 6 j) (fun j => M 7 j) := by
  rw [laM_uE (by omega)]
  congr 1
  funext c
  unfold upf
  by_cases e : c = (i : Int)
  · rw [if_pos e, if_pos (by omega)]
  · rw [if_neg e]
    exact ite_c9 ⟨fun q => by omega, fun q => by omega⟩ rfl rfl
theorem la_s {M : Me} {q : Int} : up (up M 4 3 q) 4 0 1000000 = laM (up M 4 3 q) 1000000 (fun j => M 5 j) (fun j => if j < ((0 : Nat) : Int) then 0 else M 6 j) (fun j => M 7 j) := laM_c (up_eq ⟨rfl, rfl⟩) (fun c h0 h1 => (up_ne (by omega)).trans (up_ne (by omega))) (fun c h0 h1 => (up_ne (by omega)).trans ((up_ne (by omega)).trans (if_neg (by omega)).symm)) (fun c h0 h1 => (up_ne (by omega)).trans (up_ne (by omega))) (fun a j h1 h2 h3 h4 => up_ne h1)
theorem l_lay {x y : Int} {M : Me} {q v : Int} {Q : Option AV → Sh → Me → Prop} (hQ : V kX2_lay 0 0 11 none Q 40 [(1, 4), (1, 219), (0, v), (9, 0)] [] (Sf x y 219) (laM (up M 4 3 q) 1000000 (fun j => M 5 j) (fun j => if j < (4 : Int) then 0 else M 6 j) (fun j => M 7 j)) 0 0) : ∀ (m i : Nat), m + i = 4 → V kX2_lay 0 0 11 none Q 22 [(1, 4), (1, 219), (0, v), (0, (i : Int))] [] (Sf x y 219) (laM (up M 4 3 q) 1000000 (fun j => M 5 j) (fun j => if j < (i : Int) then 0 else M 6 j) (fun j => M 7 j)) 0 0 := by
  intro m
  induction m with
  | zero =>
    intro i hi
    obtain rfl : i = 4 := by omega
    refine r_iload_n dX2_lay_22 rfl ?_
    refine r_iconst dX2_lay_23 (by decide) ?_
    refine r_icmp_ge (tgt := 40) dX2_lay_24 (by decide) (fun h24 => ?_) (fun h24 => by exfalso; omega)
    exact wk3 hQ
  | succ m ih =>
    intro i hi
    refine r_iload_n dX2_lay_22 rfl ?_
    refine r_iconst dX2_lay_23 (by decide) ?_
    refine r_icmp_ge (tgt := 40) dX2_lay_24 (by decide) (fun h24 => by exfalso; omega) (fun h24 => ?_)
    refine r_aload_n dX2_lay_27 rfl (by decide) ?_
    refine r_getr (x := 6) dX2_lay_28 flX2_15 sf4 (by decide) (by decide) rfl rfl ?_
    refine r_iload_n dX2_lay_31 rfl ?_
    refine r_iconst dX2_lay_32 (by decide) ?_
    refine r_iast dX2_lay_33 sf6 (by decide) (by omega) (by omega) (by decide) rfl ?_
    refine V.cm rfl (la_i (by omega)) ?_
    refine r_iinc dX2_lay_34 rfl rfl (by decide) (w32_id (by omega)) st3 ?_
    refine r_goto (tgt := 22) dX2_lay_37 (by decide) ?_
    exact ih (i + 1) (by omega)
theorem c_lay {x y z : Int} {M : Me} {n : Nat} (hn : M 219 0 = (n : Int)) (hn8 : n ≤ 8) {q : Int} (hq : 1 ≤ q ∧ q ≤ 4) (hw : ∀ j : Int, 0 ≤ j → j < n → 0 ≤ M 220 j ∧ M 220 j ≤ 99) : Con kX2_lay 11 0 0 [(1, 4), (1, 219), (0, q)] (Sf x y z) M (Ex none (Sf x y 219) (haM M n q)) := by
  refine Con.ofV (al := [(1, 4), (1, 219), (0, q), (9, 0)]) 1 (by decide) (Nat.le_of_ble_eq_true rfl) rfl ?_
  refine r_aload_n dX2_lay_0 rfl (by decide) ?_
  refine r_aload_n dX2_lay_1 rfl (by decide) ?_
  refine r_putr dX2_lay_2 fpX2_21 sf4 (by decide) (Nat.le_of_ble_eq_true rfl) (by decide) (by decide) rfl rfl ?_
  refine r_aload_n dX2_lay_5 rfl (by decide) ?_
  refine r_iload_n dX2_lay_6 rfl ?_
  refine r_iconst dX2_lay_7 (by decide) ?_
  refine r_mmin dX2_lay_8 clmX2_25 ma_min1 ii_Math ma_min2 (by first | decide | omega) (Nat.le_of_ble_eq_true rfl) (show min q 4 = q by omega) ?_
  refine r_pi 3 dX2_lay_11 fpX2_31 sf4 (by decide) (by decide) rfl rfl ?_
  refine r_aload_n dX2_lay_14 rfl (by decide) ?_
  refine r_ldc (x := 1000000) dX2_lay_15 ctX2_35 (by decide) ?_
  refine r_pi 0 dX2_lay_17 fpX2_36 sf4 (by decide) (by decide) rfl rfl ?_
  refine V.cm rfl la_s ?_
  refine r_iconst dX2_lay_20 (by decide) ?_
  refine r_istore_n dX2_lay_21 rfl (by decide) st3 ?_
  refine l_lay ?_ 4 0 rfl
  refine V.cm rfl (show _ = laM (up M 4 3 q) 1000000 (fun j => M 5 j) (fun _ => 0) (fun j => M 7 j) from laM_c laM_0 (fun c h0 h1 => laM_B ⟨h0, h1⟩) (fun c h0 h1 => (laM_E ⟨h0, h1⟩).trans (if_pos (by omega))) (fun c h0 h1 => laM_L ⟨h0, h1⟩) (fun a j h1 h2 h3 h4 => laM_o ⟨h1, h2, h3, h4⟩)) ?_
  refine r_aload_n dX2_lay_40 rfl (by decide) ?_
  refine r_iconst dX2_lay_41 (by decide) ?_
  refine r_iconst dX2_lay_42 (by decide) ?_
  refine r_iconst dX2_lay_43 (by decide) ?_
  refine r_cu4 dX2_lay_44 clX2_39 (by first | decide | omega) (Nat.le_of_ble_eq_true rfl) ((c_layFrom (M := up M 4 3 q) ((up_ne (by omega)).trans hn) hn8 (up_eq ⟨rfl, rfl⟩) hq (fun j g0 g1 => by rw [up_ne (by omega)]; exact hw j g0 g1) n 0 0 0 (fun _ => 0) (1000000, (fun j => M 5 j), (fun j => M 7 j)) (by omega) (by decide) (by decide) (by decide) (fun j g0 g1 => by omega))) ⟨Nat.zero_le _, Nat.zero_le _⟩ ?_
  refine r_ret0 dX2_lay_47 rfl ?_
  exact ⟨rfl, rfl, by unfold haM; rw [show (fun j : Int => up M 4 3 q 220 j) = (fun j : Int => M 220 j) from funext fun j => up_ne (by omega)]⟩
