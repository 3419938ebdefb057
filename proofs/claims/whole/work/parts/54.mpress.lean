def pn1 (M : Me) (n : Nat) (c : Int) : Me := up (lxM M n c (M 430 2) 0) 430 (15 + 7 * c + 0) (hld (M 430 (15 + 7 * c + 0) - lwP M n c) 0 9)
def pn2 (M : Me) (n : Nat) (c : Int) : Me := up (lxM M n c (M 430 2) 1) 430 11 ((M 430 11 * 401 + 281) % 30509)
/-- those of the set h that are there go, by number -/
def gnS (M : Me) (h : Int) : Nat → Me
  | 0 => M
  | e + 1 => if and32 (shr32 h e) 1 = 1 ∧ gnS M h e 430 (15 + 7 * (e : Int) + 1) = 0 then bcA (gnS M h e) e 1 0 else gnS M h e
theorem gnS_t {M : Me} {h : Int} {e : Nat} (q : and32 (shr32 h e) 1 = 1 ∧ gnS M h e 430 (15 + 7 * (e : Int) + 1) = 0) : gnS M h (e + 1) = bcA (gnS M h e) e 1 0 := if_pos q
theorem gnS_f {M : Me} {h : Int} {e : Nat} (q : ¬ (and32 (shr32 h e) 1 = 1 ∧ gnS M h e 430 (15 + 7 * (e : Int) + 1) = 0)) : gnS M h (e + 1) = gnS M h e := if_neg q
def pn3 (M : Me) (n : Nat) (c s : Int) : Me := if s ≠ 0 then bcA M c 2 0 else if M 430 (15 + 7 * c + 0) = 0 then gnS M (hangT (tiA M) n c) n else M
def pnX (M : Me) (c : Int) : Int := 99 + 3 * M 430 (15 + 7 * c + 2)
def pn4 (M : Me) (n : Nat) (c : Int) : Me := up (lxM M n c (M 430 2) 2) 430 (pnX M c) (hld (M 430 (pnX M c) - lwC M n c (M 430 2)) 0 9999)
/-- whether it scorches -/
def pnC (M : Me) (n : Nat) (c : Int) : Int := if M 430 11 % 10 < lwS M n c then 1 else 0
def pnM (M : Me) (n : Nat) (c : Int) : Me := pn4 (pn3 (pn2 (pn1 M n c) n c) n c (pnC (pn1 M n c) n c)) n c
theorem hy_1 {M : Me} (h : HY M) {n : Nat} {c : Int} (hc : 0 ≤ c ∧ c < 12) : HY (pn1 M n c) :=
  h.lw.of (wcu_0 h.lw.1 hc (hld_b (by decide))) (up_ne (by omega)) (up_ne (by omega)) (funext (fun j => up_ne (by omega)))
theorem hy_2 {M : Me} (h : HY M) {n : Nat} {c : Int} : HY (pn2 M n c) := by
  have := wa_11 h.1
  exact h.lw.of (wu_11 h.lw.1 (by omega)) (up_ne (by omega)) (up_ne (by omega)) (funext (fun j => up_ne (by omega)))
theorem hy_bc {M : Me} (h : HY M) {c t d : Int} (hc : 0 ≤ c ∧ c < 12) (ht : 0 ≤ t ∧ t ≤ 2) (hd : 0 ≤ d ∧ d ≤ 9) : HY (bcA M c t d) :=
  h.of (wa_bc h.1 hc ht hd) (bcA_o (wa_12 h.1) hc (by omega)) (bcA_o (wa_12 h.1) hc (by omega)) (funext (fun j => bcA_o (wa_12 h.1) hc (by omega)))
theorem gnS_h {M : Me} (h : HY M) {g : Int} : ∀ n : Nat, n ≤ 12 → HY (gnS M g n) ∧ ∀ a j, ¬ (a = 430 ∧ (j = 12 ∨ (2112 ≤ j ∧ j < 2142) ∨ (15 ≤ j ∧ j < 99 ∧ (j - 15) % 7 < 2))) → gnS M g n a j = M a j := by
  intro n
  induction n with
  | zero => intro _; exact ⟨h, fun _ _ _ => rfl⟩
  | succ n ih =>
    intro hn
    obtain ⟨h1, h2⟩ := ih (by omega)
    by_cases q : and32 (shr32 g n) 1 = 1 ∧ gnS M g n 430 (15 + 7 * (n : Int) + 1) = 0
    · rw [gnS_t q]
      exact ⟨hy_bc h1 (by omega) (by decide) (by decide), fun a j q2 => (bcA_o (wa_12 h1.1) (by omega) (by omega)).trans (h2 a j q2)⟩
    · rw [gnS_f q]; exact ⟨h1, h2⟩
theorem hy_3 {M : Me} (h : HY M) {n : Nat} (hn12 : n ≤ 12) {c s : Int} (hc : 0 ≤ c ∧ c < 12) : HY (pn3 M n c s) ∧ ∀ a j, ¬ (a = 430 ∧ (j = 12 ∨ (2112 ≤ j ∧ j < 2142) ∨ (15 ≤ j ∧ j < 99 ∧ (j - 15) % 7 < 2))) → pn3 M n c s a j = M a j := by
  unfold pn3
  (repeat' split)
  · exact ⟨hy_bc h hc (by decide) (by decide), fun a j q => bcA_o (wa_12 h.1) hc (by omega)⟩
  · exact gnS_h h n hn12
  · exact ⟨h, fun _ _ _ => rfl⟩
theorem hy_4 {M : Me} (h : HY M) {n : Nat} {c : Int} (hc : 0 ≤ c ∧ c < 12) : HY (pn4 M n c) := by
  have a2 := wc_2 h.1 hc
  have e : 99 + 3 * M 430 (15 + 7 * c + 2) + 0 = pnX M c := by unfold pnX; omega
  have hw : WA (pn4 M n c) := by
    unfold pn4
    rw [← e]
    exact xp_0 h.lw.1 (by omega) (hld_b (by decide))
  exact h.lw.of hw (up_ne (by unfold pnX; omega)) (up_ne (by unfold pnX; omega)) (funext (fun j => up_ne (by omega)))
theorem pn1_14 {M : Me} {n : Nat} {c : Int} (hc : 0 ≤ c ∧ c < 12) {j : Int} (hj : 0 ≤ j ∧ (j < 15 ∨ 99 ≤ j ∨ (15 ≤ j ∧ j < 99 ∧ (j - 15) % 7 ≠ 0))) : pn1 M n c 430 j = M 430 j := (up_ne (by omega)).trans (lxM_o (by omega))
theorem pn2_14 {M : Me} {n : Nat} {c : Int} {j : Int} (hj : j ≠ 11) : pn2 M n c 430 j = M 430 j := (up_ne (by omega)).trans (lxM_o (by omega))
theorem pnM_o {M : Me} (h : HY M) {n : Nat} (hn12 : n ≤ 12) {c : Int} (hc : 0 ≤ c ∧ c < 12) : HY (pnM M n c) ∧ ∀ a j, ¬ (435 ≤ a ∧ a ≤ 437) → ¬ (a = 430 ∧ (j = 11 ∨ j = 12 ∨ (99 ≤ j ∧ j < 114) ∨ (2112 ≤ j ∧ j < 2142) ∨ (15 ≤ j ∧ j < 99 ∧ (j - 15) % 7 < 2))) → pnM M n c a j = M a j := by
  have h2 := hy_2 (hy_1 h (n := n) hc) (n := n) (c := c)
  have h3 := hy_3 h2 hn12 (s := pnC (pn1 M n c) n c) hc
  refine ⟨hy_4 h3.1 hc, fun a j q0 q => ?_⟩
  have a2 := wc_2 h3.1.1 hc
  refine (up_ne (by unfold pnX; omega)).trans ((lxM_o q0).trans ((h3.2 a j (by omega)).trans ?_))
  exact (up_ne (by omega)).trans ((lxM_o q0).trans ((up_ne (by omega)).trans (lxM_o q0)))
theorem l_cost {x y z : Int} {M : Me} (h : HY M) {n : Nat} (hn : M 430 14 = (n : Int)) (hn12 : n ≤ 12) {c : Int} (hc : 0 ≤ c ∧ c < 12) {s g : Int} : V kX11_pressNow 0 0 7 none (Ex none (Sf x y z) (pn4 M n c)) 129 [(1, 429), (0, c), (0, s), (0, g), (9, 0)] [] (Sf x y z) M 0 0 := by
  have a2 := wc_2 h.1 hc
  have hx : pnX M c = 99 + 3 * M 430 (15 + 7 * c + 2) := rfl
  have hb := wp_0 h.1 (c := M 430 (15 + 7 * c + 2)) (by omega)
  have hlc := lwV_b (M := M) (n := n) (c := c) (t := M 430 2) (u := 2) (g := nmV M n c 5) (o := 9999) (by decide)
  have hlc2 : 0 ≤ lwC M n c (M 430 2) ∧ lwC M n c (M 430 2) ≤ 9999 := hlc
  refine r_bipush dX11_pressNow_129 (by decide) (by decide) ?_
  refine r_iconst dX11_pressNow_131 (by decide) ?_
  refine r_aload_n dX11_pressNow_132 rfl (by decide) ?_
  refine r_iload_n dX11_pressNow_133 rfl ?_
  refine r_iconst dX11_pressNow_134 (by decide) ?_
  refine r_cv2 dX11_pressNow_135 clX11_66 sf429 (by decide) (by decide) rfl (by first | decide | omega) (Nat.le_of_ble_eq_true rfl) ((c_get (by omega) (by decide))) ⟨Nat.zero_le _, Nat.zero_le _⟩ (fun _ => ?_)
  refine r_imul dX11_pressNow_138 (w32_id (by omega)) ?_
  refine r_iadd dX11_pressNow_139 (w32_id (by omega)) ?_
  rw [show 99 + 3 * M 430 (15 + 7 * c + 2) = pnX M c from rfl]
  refine r_istore dX11_pressNow_140 rfl (by decide) st4 ?_
  refine r_aload_n dX11_pressNow_142 rfl (by decide) ?_
  refine r_getr (x := 430) dX11_pressNow_143 flX11_7 sf429 (by decide) (by decide) rfl rfl ?_
  refine r_iload dX11_pressNow_146 rfl ?_
  refine r_aload_n dX11_pressNow_148 rfl (by decide) ?_
  refine r_getr (x := 430) dX11_pressNow_149 flX11_7 sf429 (by decide) (by decide) rfl rfl ?_
  refine r_iload dX11_pressNow_152 rfl ?_
  refine r_iald dX11_pressNow_154 sf430 (by decide) (by omega) (by omega) (by decide) rfl ?_
  refine r_aload_n dX11_pressNow_155 rfl (by decide) ?_
  refine r_aload_n dX11_pressNow_156 rfl (by decide) ?_
  refine r_getr (x := 430) dX11_pressNow_157 flX11_7 sf429 (by decide) (by decide) rfl rfl ?_
  refine r_iconst dX11_pressNow_160 (by decide) ?_
  refine r_iald dX11_pressNow_161 sf430 (by decide) (by omega) (by omega) (by decide) rfl ?_
  refine r_iload_n dX11_pressNow_162 rfl ?_
  refine r_cv2 dX11_pressNow_163 clX11_333 sf429 (by decide) (by decide) rfl (by first | decide | omega) (Nat.le_of_ble_eq_true rfl) ((m_priceX h hn hn12 hc h.2.1)) ⟨Nat.zero_le _, Nat.zero_le _⟩ (fun _ => ?_)
  refine r_isub dX11_pressNow_166 (w32_id (by rw [hx]; rw [show 99 + 3 * M 430 (15 + 7 * c + 2) = 99 + 3 * M 430 (15 + 7 * c + 2) + 0 by omega]; omega)) ?_
  refine r_i2l dX11_pressNow_167 ?_
  refine r_iconst dX11_pressNow_168 (by decide) ?_
  refine r_sipush dX11_pressNow_169 (by decide) (by decide) ?_
  refine r_cs3 dX11_pressNow_172 clX11_292 (by first | decide | omega) (Nat.le_of_ble_eq_true rfl) ((c_held (by decide) (by decide))) ⟨Nat.zero_le _, Nat.zero_le _⟩ (fun _ => ?_)
  refine r_iast dX11_pressNow_175 sf430 (by decide) (by omega) (by omega) (by decide) rfl ?_
  refine r_ret0 dX11_pressNow_176 rfl ?_
  exact ⟨rfl, rfl, rfl⟩
theorem l_gone {x y z : Int} {M : Me} (h : HY M) {n : Nat} (hn : M 430 14 = (n : Int)) (hn12 : n ≤ 12) {c : Int} (hc : 0 ≤ c ∧ c < 12) {s g : Int} {Q : Option AV → Sh → Me → Prop} (hQ : V kX11_pressNow 0 0 7 none Q 129 [(1, 429), (0, c), (0, s), (0, g), (9, 0)] [] (Sf x y z) (gnS M g n) 0 0) : ∀ (m i : Nat), m + i = n → V kX11_pressNow 0 0 7 none Q 85 [(1, 429), (0, c), (0, s), (0, g), (0, (i : Int))] [] (Sf x y z) (gnS M g i) 0 0 := by
  intro m
  induction m with
  | zero =>
    intro i hi
    obtain rfl : i = n := by omega
    have e14 : gnS M g i 430 14 = (i : Int) := ((gnS_h h i hn12).2 430 14 (by omega)).trans hn
    refine r_iload dX11_pressNow_85 rfl ?_
    refine r_aload_n dX11_pressNow_87 rfl (by decide) ?_
    refine r_getr (x := 430) dX11_pressNow_88 flX11_7 sf429 (by decide) (by decide) rfl rfl ?_
    refine r_bipush dX11_pressNow_91 (by decide) (by decide) ?_
    refine r_iald dX11_pressNow_93 sf430 (by decide) (by omega) (by omega) (by decide) e14 ?_
    refine r_icmp_ge (tgt := 129) dX11_pressNow_94 (by decide) (fun h94 => ?_) (fun h94 => by exfalso; omega)
    exact wk4 hQ
  | succ m ih =>
    intro i hi
    have hI := gnS_h h (g := g) i (by omega)
    have e14 : gnS M g i 430 14 = (n : Int) := (hI.2 430 14 (by omega)).trans hn
    have h12 := wa_12 hI.1.1
    have h10 := wa_10 hI.1.1
    refine r_iload dX11_pressNow_85 rfl ?_
    refine r_aload_n dX11_pressNow_87 rfl (by decide) ?_
    refine r_getr (x := 430) dX11_pressNow_88 flX11_7 sf429 (by decide) (by decide) rfl rfl ?_
    refine r_bipush dX11_pressNow_91 (by decide) (by decide) ?_
    refine r_iald dX11_pressNow_93 sf430 (by decide) (by omega) (by omega) (by decide) e14 ?_
    refine r_icmp_ge (tgt := 129) dX11_pressNow_94 (by decide) (fun h94 => by exfalso; omega) (fun h94 => ?_)
    refine r_iload_n dX11_pressNow_97 rfl ?_
    refine r_iload dX11_pressNow_98 rfl ?_
    refine r_cs2 dX11_pressNow_100 clX11_84 (by first | decide | omega) (Nat.le_of_ble_eq_true rfl) (c_has) ⟨Nat.zero_le _, Nat.zero_le _⟩ (fun _ => ?_)
    refine r_if_eq (tgt := 123) dX11_pressNow_103 (by decide) (fun h103 => ?_) (fun h103 => ?_)
    · try have h103 := bi_0.mp h103
      refine V.cm rfl (gnS_f (fun q => absurd q.1 (by assumption))).symm ?_
      refine r_iinc dX11_pressNow_123 rfl rfl (by decide) (w32_id (by omega)) st4 ?_
      refine r_goto (tgt := 85) dX11_pressNow_126 (by decide) ?_
      exact ih (i + 1) (by omega)
    · try have h103 := bi_1.mp h103
      refine r_aload_n dX11_pressNow_106 rfl (by decide) ?_
      refine r_iload dX11_pressNow_107 rfl ?_
      refine r_cv1 dX11_pressNow_109 clX11_70 sf429 (by decide) (by decide) rfl (by first | decide | omega) (Nat.le_of_ble_eq_true rfl) ((c_isThere (by omega))) ⟨Nat.zero_le _, Nat.zero_le _⟩ (fun _ => ?_)
      refine r_if_eq (tgt := 123) dX11_pressNow_112 (by decide) (fun h112 => ?_) (fun h112 => ?_)
      · try have h112 := bi_0.mp h112
        refine V.cm rfl (gnS_f (fun q => absurd q.2 (by assumption))).symm ?_
        refine r_iinc dX11_pressNow_123 rfl rfl (by decide) (w32_id (by omega)) st4 ?_
        refine r_goto (tgt := 85) dX11_pressNow_126 (by decide) ?_
        exact ih (i + 1) (by omega)
      · try have h112 := bi_1.mp h112
        refine r_aload_n dX11_pressNow_115 rfl (by decide) ?_
        refine r_iload dX11_pressNow_116 rfl ?_
        refine r_iconst dX11_pressNow_118 (by decide) ?_
        refine r_iconst dX11_pressNow_119 (by decide) ?_
        refine r_cw3 dX11_pressNow_120 clX11_330 sf429 (by decide) (by decide) rfl (by first | decide | omega) (Nat.le_of_ble_eq_true rfl) ((m_become (by omega) (by decide) h12 h10)) ⟨Nat.zero_le _, Nat.zero_le _⟩ ?_
        rw [← gnS_t ⟨by assumption, by assumption⟩]
        refine r_iinc dX11_pressNow_123 rfl rfl (by decide) (w32_id (by omega)) st4 ?_
        refine r_goto (tgt := 85) dX11_pressNow_126 (by decide) ?_
        exact ih (i + 1) (by omega)
theorem lwP_b {M : Me} {n : Nat} {c : Int} : 0 ≤ lwP M n c ∧ lwP M n c ≤ 9 := lwV_b (by decide)
theorem lwS_b {M : Me} {n : Nat} {c : Int} : 0 ≤ lwS M n c ∧ lwS M n c ≤ 10 := lwV_b (by decide)
theorem pnM_s {M : Me} {n : Nat} {c : Int} (hs : (pn1 M n c) 430 11 % 10 < lwS (pn1 M n c) n c) : pnM M n c = pn4 (bcA (pn2 (pn1 M n c) n c) c 2 0) n c := by
  unfold pnM pn3
  rw [show pnC (pn1 M n c) n c = 1 from if_pos hs, if_pos (by decide)]
theorem pnM_g {M : Me} {n : Nat} {c : Int} (hs : ¬ (pn1 M n c) 430 11 % 10 < lwS (pn1 M n c) n c) (hd : (pn2 (pn1 M n c) n c) 430 (15 + 7 * c + 0) = 0) : pnM M n c = pn4 (gnS (pn2 (pn1 M n c) n c) (hangT (tiA (pn2 (pn1 M n c) n c)) n c) n) n c := by
  unfold pnM pn3
  rw [show pnC (pn1 M n c) n c = 0 from if_neg hs, if_neg (by decide), if_pos hd]
theorem pnM_n {M : Me} {n : Nat} {c : Int} (hs : ¬ (pn1 M n c) 430 11 % 10 < lwS (pn1 M n c) n c) (hd : (pn2 (pn1 M n c) n c) 430 (15 + 7 * c + 0) ≠ 0) : pnM M n c = pn4 (pn2 (pn1 M n c) n c) n c := by
  unfold pnM pn3
  rw [show pnC (pn1 M n c) n c = 0 from if_neg hs, if_neg (by decide), if_neg hd]
set_option maxHeartbeats 1000000 in
theorem m_pressNow {x y z : Int} {M : Me} (h : HY M) {n : Nat} (hn : M 430 14 = (n : Int)) (hn12 : n ≤ 12) {c : Int} (hc : 0 ≤ c ∧ c < 12) : Con kX11_pressNow 7 0 0 [(1, 429), (0, c)] (Sf x y z) M (Ex none (Sf x y z) (pnM M n c)) := by
  refine Con.ofV (al := [(1, 429), (0, c), (9, 0), (9, 0), (9, 0)]) 3 (by decide) (Nat.le_of_ble_eq_true rfl) rfl ?_
  have h1 := hy_1 h (n := n) hc
  have e1 : (pn1 M n c) 430 14 = (n : Int) := (pn1_14 hc (by omega)).trans hn
  have h2 := hy_2 h1 (n := n) (c := c)
  have e2 : (pn2 (pn1 M n c) n c) 430 14 = (n : Int) := (pn2_14 (by omega)).trans e1
  have b0 := wc_0 h.1 hc
  have bp := lwP_b (M := M) (n := n) (c := c)
  have b11 := wa_11 h1.1
  have b12 := wa_12 h2.1
  have b10 := wa_10 h2.1
  have bs := lwS_b (M := (pn1 M n c)) (n := n) (c := c)
  refine r_aload_n dX11_pressNow_0 rfl (by decide) ?_
  refine r_iload_n dX11_pressNow_1 rfl ?_
  refine r_iconst dX11_pressNow_2 (by decide) ?_
  refine r_aload_n dX11_pressNow_3 rfl (by decide) ?_
  refine r_iload_n dX11_pressNow_4 rfl ?_
  refine r_iconst dX11_pressNow_5 (by decide) ?_
  refine r_cv2 dX11_pressNow_6 clX11_66 sf429 (by decide) (by decide) rfl (by first | decide | omega) (Nat.le_of_ble_eq_true rfl) ((c_get (by omega) (by decide))) ⟨Nat.zero_le _, Nat.zero_le _⟩ (fun _ => ?_)
  refine r_aload_n dX11_pressNow_9 rfl (by decide) ?_
  refine r_iload_n dX11_pressNow_10 rfl ?_
  refine r_cv1 dX11_pressNow_11 clX11_321 sf429 (by decide) (by decide) rfl (by first | decide | omega) (Nat.le_of_ble_eq_true rfl) ((m_pressesX h hn hn12 hc)) ⟨Nat.zero_le _, Nat.zero_le _⟩ (fun _ => ?_)
  refine r_isub dX11_pressNow_14 (w32_id (by omega)) ?_
  refine r_i2l dX11_pressNow_15 ?_
  refine r_iconst dX11_pressNow_16 (by decide) ?_
  refine r_bipush dX11_pressNow_17 (by decide) (by decide) ?_
  refine r_cs3 dX11_pressNow_19 clX11_292 (by first | decide | omega) (Nat.le_of_ble_eq_true rfl) ((c_held (by decide) (by decide))) ⟨Nat.zero_le _, Nat.zero_le _⟩ (fun _ => ?_)
  refine r_cw3 dX11_pressNow_22 clX11_77 sf429 (by decide) (by decide) rfl (by first | decide | omega) (Nat.le_of_ble_eq_true rfl) ((c_put (by omega) (by decide))) ⟨Nat.zero_le _, Nat.zero_le _⟩ ?_
  refine V.cm rfl (show _ = pn1 M n c from rfl) ?_
  refine r_aload_n dX11_pressNow_25 rfl (by decide) ?_
  refine r_getr (x := 430) dX11_pressNow_26 flX11_7 sf429 (by decide) (by decide) rfl rfl ?_
  refine r_bipush dX11_pressNow_29 (by decide) (by decide) ?_
  refine r_iald dX11_pressNow_31 sf430 (by decide) (by omega) (by omega) (by decide) rfl ?_
  refine r_bipush dX11_pressNow_32 (by decide) (by decide) ?_
  refine r_irem dX11_pressNow_34 (by omega) (rmn (by omega)) ?_
  refine r_aload_n dX11_pressNow_35 rfl (by decide) ?_
  refine r_iload_n dX11_pressNow_36 rfl ?_
  refine r_cv1 dX11_pressNow_37 clX11_324 sf429 (by decide) (by decide) rfl (by first | decide | omega) (Nat.le_of_ble_eq_true rfl) ((m_scorchesX h1 e1 hn12 hc)) ⟨Nat.zero_le _, Nat.zero_le _⟩ (fun _ => ?_)
  refine r_icmp_ge (tgt := 47) dX11_pressNow_40 (by decide) (fun h40 => ?_) (fun h40 => ?_)
  · refine r_iconst dX11_pressNow_47 (by decide) ?_
    refine r_istore_n dX11_pressNow_48 rfl (by decide) st2 ?_
    refine r_aload_n dX11_pressNow_49 rfl (by decide) ?_
    refine r_cw0 dX11_pressNow_50 clX11_327 sf429 (by decide) (by decide) rfl (by first | decide | omega) (Nat.le_of_ble_eq_true rfl) ((m_anew (by rw [lxM_o (by omega)]; omega))) ⟨Nat.zero_le _, Nat.zero_le _⟩ ?_
    refine V.cm rfl (show _ = (pn2 (pn1 M n c) n c) from by unfold pn2; rw [lxM_o (by omega)]) ?_
    refine r_aload_n dX11_pressNow_53 rfl (by decide) ?_
    refine r_iload_n dX11_pressNow_54 rfl ?_
    refine r_cv1 dX11_pressNow_55 clX11_299 sf429 (by decide) (by decide) rfl (by first | decide | omega) (Nat.le_of_ble_eq_true rfl) ((m_hangingOn e2 hn12)) ⟨Nat.zero_le _, Nat.zero_le _⟩ (fun _ => ?_)
    refine r_istore_n dX11_pressNow_58 rfl (by decide) st3 ?_
    refine r_iload_n dX11_pressNow_59 rfl ?_
    refine r_if_eq (tgt := 73) dX11_pressNow_60 (by decide) (fun h60 => ?_) (fun h60 => by exfalso; omega)
    refine r_aload_n dX11_pressNow_73 rfl (by decide) ?_
    refine r_iload_n dX11_pressNow_74 rfl ?_
    refine r_iconst dX11_pressNow_75 (by decide) ?_
    refine r_cv2 dX11_pressNow_76 clX11_66 sf429 (by decide) (by decide) rfl (by first | decide | omega) (Nat.le_of_ble_eq_true rfl) ((c_get (by omega) (by decide))) ⟨Nat.zero_le _, Nat.zero_le _⟩ (fun _ => ?_)
    refine r_if_ne (tgt := 129) dX11_pressNow_79 (by decide) (fun h79 => ?_) (fun h79 => ?_)
    · try have h79 := bi_1.mp h79
      first | (rw [pnM_s (by omega)]; exact l_cost (M := bcA (pn2 (pn1 M n c) n c) c 2 0) (hy_bc h2 hc (by decide) (by decide)) ((bcA_o b12 hc (by omega)).trans e2) hn12 hc) | (rw [pnM_n (by omega) (by assumption)]; exact l_cost (M := (pn2 (pn1 M n c) n c)) (h2) (e2) hn12 hc)
    · try have h79 := bi_0.mp h79
      refine r_iconst dX11_pressNow_82 (by decide) ?_
      refine r_istore dX11_pressNow_83 rfl (by decide) st4 ?_
      rw [pnM_g (by omega) (by assumption)]
      exact l_gone h2 e2 hn12 hc (l_cost (M := gnS (pn2 (pn1 M n c) n c) (hangT (tiA (pn2 (pn1 M n c) n c)) n c) n) ((gnS_h h2 n hn12).1) (((gnS_h h2 n hn12).2 430 14 (by omega)).trans e2) hn12 hc) n 0 (by omega)
  · refine r_iconst dX11_pressNow_43 (by decide) ?_
    refine r_goto (tgt := 48) dX11_pressNow_44 (by decide) ?_
    refine r_istore_n dX11_pressNow_48 rfl (by decide) st2 ?_
    refine r_aload_n dX11_pressNow_49 rfl (by decide) ?_
    refine r_cw0 dX11_pressNow_50 clX11_327 sf429 (by decide) (by decide) rfl (by first | decide | omega) (Nat.le_of_ble_eq_true rfl) ((m_anew (by rw [lxM_o (by omega)]; omega))) ⟨Nat.zero_le _, Nat.zero_le _⟩ ?_
    refine V.cm rfl (show _ = (pn2 (pn1 M n c) n c) from by unfold pn2; rw [lxM_o (by omega)]) ?_
    refine r_aload_n dX11_pressNow_53 rfl (by decide) ?_
    refine r_iload_n dX11_pressNow_54 rfl ?_
    refine r_cv1 dX11_pressNow_55 clX11_299 sf429 (by decide) (by decide) rfl (by first | decide | omega) (Nat.le_of_ble_eq_true rfl) ((m_hangingOn e2 hn12)) ⟨Nat.zero_le _, Nat.zero_le _⟩ (fun _ => ?_)
    refine r_istore_n dX11_pressNow_58 rfl (by decide) st3 ?_
    refine r_iload_n dX11_pressNow_59 rfl ?_
    refine r_if_eq (tgt := 73) dX11_pressNow_60 (by decide) (fun h60 => by exfalso; omega) (fun h60 => ?_)
    refine r_aload_n dX11_pressNow_63 rfl (by decide) ?_
    refine r_iload_n dX11_pressNow_64 rfl ?_
    refine r_iconst dX11_pressNow_65 (by decide) ?_
    refine r_iconst dX11_pressNow_66 (by decide) ?_
    refine r_cw3 dX11_pressNow_67 clX11_330 sf429 (by decide) (by decide) rfl (by first | decide | omega) (Nat.le_of_ble_eq_true rfl) ((m_become hc (by decide) b12 b10)) ⟨Nat.zero_le _, Nat.zero_le _⟩ ?_
    refine r_goto (tgt := 129) dX11_pressNow_70 (by decide) ?_
    first | (rw [pnM_s (by omega)]; exact l_cost (M := bcA (pn2 (pn1 M n c) n c) c 2 0) (hy_bc h2 hc (by decide) (by decide)) ((bcA_o b12 hc (by omega)).trans e2) hn12 hc) | (rw [pnM_n (by omega) (by assumption)]; exact l_cost (M := (pn2 (pn1 M n c) n c)) (h2) (e2) hn12 hc)
theorem hy_kp {M : Me} (h : HY M) : HY (kpA M) := h.of (wa_kp h.1) (kpA_o (wa_3 h.1) (by omega)) (kpA_o (wa_3 h.1) (by omega)) (funext (fun j => kpA_o (wa_3 h.1) (by omega)))
def prsV (M : Me) (n : Nat) (c : Int) : Int := if (0 ≤ c ∧ c < M 430 14) ∧ M 430 (15 + 7 * c + 1) = 0 then pnM (kpA M) n c 430 (15 + 7 * c + 0) else -1
def prsM (M : Me) (n : Nat) (c : Int) : Me := if (0 ≤ c ∧ c < M 430 14) ∧ M 430 (15 + 7 * c + 1) = 0 then pnM (kpA M) n c else M
theorem m_press {x y z : Int} {M : Me} (h : HY M) {n : Nat} (hn : M 430 14 = (n : Int)) (hn12 : n ≤ 12) {c : Int} : Con kX11_press 8 0 0 [(1, 429), (0, c)] (Sf x y z) M (Ex (some (0, prsV M n c)) (Sf x y z) (prsM M n c)) := by
  refine Con.ofV (al := [(1, 429), (0, c)]) 0 (by decide) (Nat.le_of_ble_eq_true rfl) rfl ?_
  have e1 : kpA M 430 14 = (n : Int) := (kpA_o (wa_3 h.1) (by omega)).trans hn
  refine r_aload_n dX11_press_0 rfl (by decide) ?_
  refine r_iload_n dX11_press_1 rfl ?_
  refine r_cv1 dX11_press_2 clX11_81 sf429 (by decide) (by decide) rfl (by first | decide | omega) (Nat.le_of_ble_eq_true rfl) ((m_isCrease (wa_14 h.1))) ⟨Nat.zero_le _, Nat.zero_le _⟩ (fun _ => ?_)
  refine r_if_eq (tgt := 16) dX11_press_5 (by decide) (fun h5 => ?_) (fun h5 => ?_)
  · try have h5 := bi_0.mp h5
    refine r_iconst dX11_press_16 (by decide) ?_
    refine r_iret dX11_press_17 rfl ?_
    first | exact ⟨by unfold prsV; rw [if_pos (by omega)], rfl, by unfold prsM; rw [if_pos (by omega)]⟩ | exact ⟨by unfold prsV; rw [if_neg (by omega)], rfl, by unfold prsM; rw [if_neg (by omega)]⟩
  · try have h5 := bi_1.mp h5
    refine r_aload_n dX11_press_8 rfl (by decide) ?_
    refine r_iload_n dX11_press_9 rfl ?_
    refine r_cv1 dX11_press_10 clX11_70 sf429 (by decide) (by decide) rfl (by first | decide | omega) (Nat.le_of_ble_eq_true rfl) ((c_isThere (by omega))) ⟨Nat.zero_le _, Nat.zero_le _⟩ (fun _ => ?_)
    refine r_if_ne (tgt := 18) dX11_press_13 (by decide) (fun h13 => ?_) (fun h13 => ?_)
    · try have h13 := bi_1.mp h13
      refine r_aload_n dX11_press_18 rfl (by decide) ?_
      refine r_cw0 dX11_press_19 clX11_342 sf429 (by decide) (by decide) rfl (by first | decide | omega) (Nat.le_of_ble_eq_true rfl) ((m_keep (wa_3 h.1))) ⟨Nat.zero_le _, Nat.zero_le _⟩ ?_
      refine r_aload_n dX11_press_22 rfl (by decide) ?_
      refine r_iload_n dX11_press_23 rfl ?_
      refine r_cw1 dX11_press_24 clX11_345 sf429 (by decide) (by decide) rfl (by first | decide | omega) (Nat.le_of_ble_eq_true rfl) ((m_pressNow (hy_kp h) e1 hn12 (by omega))) ⟨Nat.zero_le _, Nat.zero_le _⟩ ?_
      refine r_aload_n dX11_press_27 rfl (by decide) ?_
      refine r_iload_n dX11_press_28 rfl ?_
      refine r_iconst dX11_press_29 (by decide) ?_
      refine r_cv2 dX11_press_30 clX11_66 sf429 (by decide) (by decide) rfl (by first | decide | omega) (Nat.le_of_ble_eq_true rfl) ((c_get (by omega) (by decide))) ⟨Nat.zero_le _, Nat.zero_le _⟩ (fun _ => ?_)
      refine r_iret dX11_press_33 rfl ?_
      first | exact ⟨by unfold prsV; rw [if_pos (by omega)], rfl, by unfold prsM; rw [if_pos (by omega)]⟩ | exact ⟨by unfold prsV; rw [if_neg (by omega)], rfl, by unfold prsM; rw [if_neg (by omega)]⟩
    · try have h13 := bi_0.mp h13
      refine r_iconst dX11_press_16 (by decide) ?_
      refine r_iret dX11_press_17 rfl ?_
      first | exact ⟨by unfold prsV; rw [if_pos (by omega)], rfl, by unfold prsM; rw [if_pos (by omega)]⟩ | exact ⟨by unfold prsV; rw [if_neg (by omega)], rfl, by unfold prsM; rw [if_neg (by omega)]⟩
