theorem Con.c2 {k : MI} {dd c1 c2 : Nat} {av : List AV} {S S' : Sh} {M A B : Me} {p q : Prop} [Decidable p] {a b : Option AV} (h : Con k dd c1 c2 av S M (fun v9 S9 M9 => S9 = S' ∧ (p ∧ v9 = a ∧ M9 = A ∨ q ∧ v9 = b ∧ M9 = B))) (hq : q → ¬ p) : Con k dd c1 c2 av S M (Ex (if p then a else b) S' (if p then A else B)) :=
  h.mono (fun v9 S9 M9 ⟨h1, h2⟩ => by
    rcases h2 with ⟨h3, h4, h5⟩ | ⟨h3, h4, h5⟩
    · rw [if_pos h3, if_pos h3]; exact ⟨h4, h1, h5⟩
    · rw [if_neg (hq h3), if_neg (hq h3)]; exact ⟨h4, h1, h5⟩)
theorem Con.c2v {k : MI} {dd c1 c2 : Nat} {av : List AV} {S S' : Sh} {M A B : Me} {p q : Prop} [Decidable p] {a b : Int} (h : Con k dd c1 c2 av S M (fun v9 S9 M9 => S9 = S' ∧ (p ∧ v9 = some (0, a) ∧ M9 = A ∨ q ∧ v9 = some (0, b) ∧ M9 = B))) (hq : q → ¬ p) : Con k dd c1 c2 av S M (Ex (some (0, if p then a else b)) S' (if p then A else B)) :=
  h.mono (fun v9 S9 M9 ⟨h1, h2⟩ => by
    rcases h2 with ⟨h3, h4, h5⟩ | ⟨h3, h4, h5⟩
    · rw [if_pos h3, if_pos h3]; exact ⟨h4, h1, h5⟩
    · rw [if_neg (hq h3), if_neg (hq h3)]; exact ⟨h4, h1, h5⟩)
def hpM (M : Me) (n : Nat) (u : Int) : Me := if u % 6 = 5 then (if M 430 10 < 9999 then psA M n else M) else if n = 0 then M else if u % 6 = 4 then (dmS M n 1 n).1 else if u % 6 = 3 then (if cbk M n (u % n) then bcA M (u % n) 0 (M 430 (15 + 7 * (u % n) + 4)) else M) else if M 430 (15 + 7 * (u % n) + 1) = 0 then pnM M n (u % n) else M
theorem hy_ps {M : Me} (h : HY M) {n : Int} (hn : n ≤ 12) (h9 : M 430 10 < 9999) : HY (psA M n) := h.of (wa_ps h.1 hn h9) (psA_o hn (by omega)) (psA_o hn (by omega)) (funext (fun j => psA_o hn (by omega)))
theorem hy_dm {M : Me} (h : HY M) {n : Nat} (hn : n ≤ 12) {k : Int} : HY (dmS M n k n).1 := by
  obtain ⟨h1, h2, -⟩ := dmS_w h.1 hn (k := k) n (Nat.le_refl n)
  exact h.of h1 (h2 _ _ (by omega)) (h2 _ _ (by omega)) (funext (fun j => h2 _ _ (by omega)))
/-- what a part of a season leaves as it was -/
theorem hpM_o {M : Me} (h : HY M) {n : Nat} (hn12 : n ≤ 12) {u : Int} (hu : 0 ≤ u) : HY (hpM M n u) ∧ ∀ a j, ¬ (435 ≤ a ∧ a ≤ 437) → ¬ (a = 430 ∧ ((10 ≤ j ∧ j ≤ 12) ∨ (99 ≤ j ∧ j < 114) ∨ (2112 ≤ j ∧ j < 2142) ∨ (15 ≤ j ∧ j < 99 ∧ (j - 15) % 7 < 2))) → hpM M n u a j = M a j := by
  unfold hpM
  split
  · split
    · exact ⟨hy_ps h (by omega) (by assumption), fun a j _ q => psA_o (by omega) (by omega)⟩
    · exact ⟨h, fun _ _ _ _ => rfl⟩
  · split
    · exact ⟨h, fun _ _ _ _ => rfl⟩
    · have hc : 0 ≤ u % (n : Int) ∧ u % (n : Int) < 12 := ⟨Int.emod_nonneg _ (by omega), by have := Int.emod_lt_of_pos u (show (0 : Int) < n by omega); omega⟩
      split
      · exact ⟨hy_dm h hn12, fun a j _ q => (dmS_w h.1 hn12 (k := 1) n (Nat.le_refl n)).2.1 a j (by omega)⟩
      · split
        · split
          · exact ⟨hy_bc h hc (by decide) (wc_4 h.1 hc), fun a j _ q => bcA_o (wa_12 h.1) hc (by omega)⟩
          · exact ⟨h, fun _ _ _ _ => rfl⟩
        · split
          · exact ⟨(pnM_o h hn12 hc).1, fun a j q0 q => (pnM_o h hn12 hc).2 a j q0 (by omega)⟩
          · exact ⟨h, fun _ _ _ _ => rfl⟩
def drA (M : Me) : Me := up M 430 11 ((M 430 11 * 401 + 281) % 30509)
/-- so many parts of a season -/
def ssS (M : Me) (n : Nat) : Nat → Me
  | 0 => M
  | k + 1 => hpM (drA (ssS M n k)) n (ssS M n k 430 11)
theorem hy_dr {M : Me} (h : HY M) : HY (drA M) := by
  have := wa_11 h.1
  exact h.of (wu_11 h.1 (by omega)) (up_ne (by omega)) (up_ne (by omega)) (funext (fun j => up_ne (by omega)))
theorem ssS_o {M : Me} (h : HY M) {n : Nat} (hn12 : n ≤ 12) : ∀ k : Nat, HY (ssS M n k) ∧ ∀ a j, ¬ (435 ≤ a ∧ a ≤ 437) → ¬ (a = 430 ∧ ((10 ≤ j ∧ j ≤ 12) ∨ (99 ≤ j ∧ j < 114) ∨ (2112 ≤ j ∧ j < 2142) ∨ (15 ≤ j ∧ j < 99 ∧ (j - 15) % 7 < 2))) → ssS M n k a j = M a j := by
  intro k
  induction k with
  | zero => exact ⟨h, fun _ _ _ _ => rfl⟩
  | succ k ih =>
    have h2 := hpM_o (hy_dr ih.1) hn12 (u := ssS M n k 430 11) (wa_11 ih.1.1).1
    exact ⟨h2.1, fun a j q0 q => (h2.2 a j q0 q).trans ((up_ne (by omega)).trans (ih.2 a j q0 q))⟩
set_option maxHeartbeats 1000000 in
theorem m_happens {x y z : Int} {M : Me} (h : HY M) {n : Nat} (hn : M 430 14 = (n : Int)) (hn12 : n ≤ 12) {u : Int} (hu : 0 ≤ u ∧ u < 40000) : Con kX11_happens 9 0 0 [(1, 429), (0, u)] (Sf x y z) M (Ex none (Sf x y z) (hpM M n u)) := by
  refine Con.ofV (al := [(1, 429), (0, u), (9, 0)]) 1 (by decide) (Nat.le_of_ble_eq_true rfl) rfl ?_
  have hc : 0 < n → 0 ≤ u % (n : Int) ∧ u % (n : Int) < n := fun q => ⟨Int.emod_nonneg _ (by omega), Int.emod_lt_of_pos u (show (0 : Int) < n by omega)⟩
  have h14 := wa_14 h.1
  refine r_iload_n dX11_happens_0 rfl ?_
  refine r_bipush dX11_happens_1 (by decide) (by decide) ?_
  refine r_irem dX11_happens_3 (by omega) (rmn (by omega)) ?_
  refine r_iconst dX11_happens_4 (by decide) ?_
  refine r_icmp_ne (tgt := 26) dX11_happens_5 (by decide) (fun h5 => ?_) (fun h5 => ?_)
  · refine r_aload_n dX11_happens_26 rfl (by decide) ?_
    refine r_getr (x := 430) dX11_happens_27 flX11_7 sf429 (by decide) (by decide) rfl rfl ?_
    refine r_bipush dX11_happens_30 (by decide) (by decide) ?_
    refine r_iald dX11_happens_32 sf430 (by decide) (by omega) (by omega) (by decide) hn ?_
    refine r_if_ne (tgt := 37) dX11_happens_33 (by decide) (fun h33 => ?_) (fun h33 => ?_)
    · refine r_iload_n dX11_happens_37 rfl ?_
      refine r_aload_n dX11_happens_38 rfl (by decide) ?_
      refine r_getr (x := 430) dX11_happens_39 flX11_7 sf429 (by decide) (by decide) rfl rfl ?_
      refine r_bipush dX11_happens_42 (by decide) (by decide) ?_
      refine r_iald dX11_happens_44 sf430 (by decide) (by omega) (by omega) (by decide) hn ?_
      refine r_irem dX11_happens_45 (by omega) (rmn (by omega)) ?_
      refine r_istore_n dX11_happens_46 rfl (by decide) st2 ?_
      refine r_iload_n dX11_happens_47 rfl ?_
      refine r_bipush dX11_happens_48 (by decide) (by decide) ?_
      refine r_irem dX11_happens_50 (by omega) (rmn (by omega)) ?_
      refine r_iconst dX11_happens_51 (by decide) ?_
      refine r_icmp_ne (tgt := 64) dX11_happens_52 (by decide) (fun h52 => ?_) (fun h52 => ?_)
      · refine r_iload_n dX11_happens_64 rfl ?_
        refine r_bipush dX11_happens_65 (by decide) (by decide) ?_
        refine r_irem dX11_happens_67 (by omega) (rmn (by omega)) ?_
        refine r_iconst dX11_happens_68 (by decide) ?_
        refine r_icmp_ne (tgt := 95) dX11_happens_69 (by decide) (fun h69 => ?_) (fun h69 => ?_)
        · refine r_aload_n dX11_happens_95 rfl (by decide) ?_
          refine r_iload_n dX11_happens_96 rfl ?_
          refine r_cv1 dX11_happens_97 clX11_70 sf429 (by decide) (by decide) rfl (by first | decide | omega) (Nat.le_of_ble_eq_true rfl) ((c_isThere (by have := hc (by omega); omega))) ⟨Nat.zero_le _, Nat.zero_le _⟩ (fun _ => ?_)
          refine r_if_eq (tgt := 108) dX11_happens_100 (by decide) (fun h100 => ?_) (fun h100 => ?_)
          · try have h100 := bi_0.mp h100
            refine r_ret0 dX11_happens_108 rfl ?_
            refine ⟨rfl, rfl, ?_⟩
            unfold hpM
            first | (rw [if_pos (by first | omega | assumption), if_pos (by first | omega | assumption)]; done) | (rw [if_pos (by first | omega | assumption), if_neg (by first | omega | assumption)]; done) | (rw [if_neg (by first | omega | assumption), if_pos (by first | omega | assumption)]; done) | (rw [if_neg (by first | omega | assumption), if_neg (by first | omega | assumption), if_pos (by first | omega | assumption)]; done) | (rw [if_neg (by first | omega | assumption), if_neg (by first | omega | assumption), if_neg (by first | omega | assumption), if_pos (by first | omega | assumption), if_pos (by first | omega | assumption)]; done) | (rw [if_neg (by first | omega | assumption), if_neg (by first | omega | assumption), if_neg (by first | omega | assumption), if_pos (by first | omega | assumption), if_neg (by first | omega | assumption)]; done) | (rw [if_neg (by first | omega | assumption), if_neg (by first | omega | assumption), if_neg (by first | omega | assumption), if_neg (by first | omega | assumption), if_pos (by first | omega | assumption)]; done) | (rw [if_neg (by first | omega | assumption), if_neg (by first | omega | assumption), if_neg (by first | omega | assumption), if_neg (by first | omega | assumption), if_neg (by first | omega | assumption)]; done)
          · try have h100 := bi_1.mp h100
            refine r_aload_n dX11_happens_103 rfl (by decide) ?_
            refine r_iload_n dX11_happens_104 rfl ?_
            refine r_cw1 dX11_happens_105 clX11_345 sf429 (by decide) (by decide) rfl (by first | decide | omega) (Nat.le_of_ble_eq_true rfl) ((m_pressNow h hn hn12 (by have := hc (by omega); omega))) ⟨Nat.zero_le _, Nat.zero_le _⟩ ?_
            refine r_ret0 dX11_happens_108 rfl ?_
            refine ⟨rfl, rfl, ?_⟩
            unfold hpM
            first | (rw [if_pos (by first | omega | assumption), if_pos (by first | omega | assumption)]; done) | (rw [if_pos (by first | omega | assumption), if_neg (by first | omega | assumption)]; done) | (rw [if_neg (by first | omega | assumption), if_pos (by first | omega | assumption)]; done) | (rw [if_neg (by first | omega | assumption), if_neg (by first | omega | assumption), if_pos (by first | omega | assumption)]; done) | (rw [if_neg (by first | omega | assumption), if_neg (by first | omega | assumption), if_neg (by first | omega | assumption), if_pos (by first | omega | assumption), if_pos (by first | omega | assumption)]; done) | (rw [if_neg (by first | omega | assumption), if_neg (by first | omega | assumption), if_neg (by first | omega | assumption), if_pos (by first | omega | assumption), if_neg (by first | omega | assumption)]; done) | (rw [if_neg (by first | omega | assumption), if_neg (by first | omega | assumption), if_neg (by first | omega | assumption), if_neg (by first | omega | assumption), if_pos (by first | omega | assumption)]; done) | (rw [if_neg (by first | omega | assumption), if_neg (by first | omega | assumption), if_neg (by first | omega | assumption), if_neg (by first | omega | assumption), if_neg (by first | omega | assumption)]; done)
        · refine r_aload_n dX11_happens_72 rfl (by decide) ?_
          refine r_iload_n dX11_happens_73 rfl ?_
          refine r_cv1 dX11_happens_74 clX11_339 sf429 (by decide) (by decide) rfl (by first | decide | omega) (Nat.le_of_ble_eq_true rfl) ((m_canBack (by have := hc (by omega); omega) hn hn12)) ⟨Nat.zero_le _, Nat.zero_le _⟩ (fun _ => ?_)
          refine r_if_eq (tgt := 108) dX11_happens_77 (by decide) (fun h77 => ?_) (fun h77 => ?_)
          · try have h77 := bi_0.mp h77
            refine r_ret0 dX11_happens_108 rfl ?_
            refine ⟨rfl, rfl, ?_⟩
            unfold hpM
            first | (rw [if_pos (by first | omega | assumption), if_pos (by first | omega | assumption)]; done) | (rw [if_pos (by first | omega | assumption), if_neg (by first | omega | assumption)]; done) | (rw [if_neg (by first | omega | assumption), if_pos (by first | omega | assumption)]; done) | (rw [if_neg (by first | omega | assumption), if_neg (by first | omega | assumption), if_pos (by first | omega | assumption)]; done) | (rw [if_neg (by first | omega | assumption), if_neg (by first | omega | assumption), if_neg (by first | omega | assumption), if_pos (by first | omega | assumption), if_pos (by first | omega | assumption)]; done) | (rw [if_neg (by first | omega | assumption), if_neg (by first | omega | assumption), if_neg (by first | omega | assumption), if_pos (by first | omega | assumption), if_neg (by first | omega | assumption)]; done) | (rw [if_neg (by first | omega | assumption), if_neg (by first | omega | assumption), if_neg (by first | omega | assumption), if_neg (by first | omega | assumption), if_pos (by first | omega | assumption)]; done) | (rw [if_neg (by first | omega | assumption), if_neg (by first | omega | assumption), if_neg (by first | omega | assumption), if_neg (by first | omega | assumption), if_neg (by first | omega | assumption)]; done)
          · try have h77 := bi_1.mp h77
            refine r_aload_n dX11_happens_80 rfl (by decide) ?_
            refine r_iload_n dX11_happens_81 rfl ?_
            refine r_iconst dX11_happens_82 (by decide) ?_
            refine r_aload_n dX11_happens_83 rfl (by decide) ?_
            refine r_iload_n dX11_happens_84 rfl ?_
            refine r_iconst dX11_happens_85 (by decide) ?_
            refine r_cv2 dX11_happens_86 clX11_66 sf429 (by decide) (by decide) rfl (by first | decide | omega) (Nat.le_of_ble_eq_true rfl) ((c_get (by have := hc (by omega); omega) (by decide))) ⟨Nat.zero_le _, Nat.zero_le _⟩ (fun _ => ?_)
            refine r_cw3 dX11_happens_89 clX11_330 sf429 (by decide) (by decide) rfl (by first | decide | omega) (Nat.le_of_ble_eq_true rfl) ((m_become (by have := hc (by omega); omega) (by decide) (wa_12 h.1) (wa_10 h.1))) ⟨Nat.zero_le _, Nat.zero_le _⟩ ?_
            refine r_goto (tgt := 108) dX11_happens_92 (by decide) ?_
            refine r_ret0 dX11_happens_108 rfl ?_
            refine ⟨rfl, rfl, ?_⟩
            unfold hpM
            first | (rw [if_pos (by first | omega | assumption), if_pos (by first | omega | assumption)]; done) | (rw [if_pos (by first | omega | assumption), if_neg (by first | omega | assumption)]; done) | (rw [if_neg (by first | omega | assumption), if_pos (by first | omega | assumption)]; done) | (rw [if_neg (by first | omega | assumption), if_neg (by first | omega | assumption), if_pos (by first | omega | assumption)]; done) | (rw [if_neg (by first | omega | assumption), if_neg (by first | omega | assumption), if_neg (by first | omega | assumption), if_pos (by first | omega | assumption), if_pos (by first | omega | assumption)]; done) | (rw [if_neg (by first | omega | assumption), if_neg (by first | omega | assumption), if_neg (by first | omega | assumption), if_pos (by first | omega | assumption), if_neg (by first | omega | assumption)]; done) | (rw [if_neg (by first | omega | assumption), if_neg (by first | omega | assumption), if_neg (by first | omega | assumption), if_neg (by first | omega | assumption), if_pos (by first | omega | assumption)]; done) | (rw [if_neg (by first | omega | assumption), if_neg (by first | omega | assumption), if_neg (by first | omega | assumption), if_neg (by first | omega | assumption), if_neg (by first | omega | assumption)]; done)
      · refine r_aload_n dX11_happens_55 rfl (by decide) ?_
        refine r_iconst dX11_happens_56 (by decide) ?_
        refine r_cv1 dX11_happens_57 clX11_348 sf429 (by decide) (by decide) rfl (by first | decide | omega) (Nat.le_of_ble_eq_true rfl) ((m_dampNow h.1 hn hn12)) ⟨Nat.zero_le _, Nat.zero_le _⟩ (fun _ => ?_)
        refine r_pop dX11_happens_60 (Nat.ne_of_beq_eq_false rfl) ?_
        refine r_goto (tgt := 108) dX11_happens_61 (by decide) ?_
        refine r_ret0 dX11_happens_108 rfl ?_
        refine ⟨rfl, rfl, ?_⟩
        unfold hpM
        first | (rw [if_pos (by first | omega | assumption), if_pos (by first | omega | assumption)]; done) | (rw [if_pos (by first | omega | assumption), if_neg (by first | omega | assumption)]; done) | (rw [if_neg (by first | omega | assumption), if_pos (by first | omega | assumption)]; done) | (rw [if_neg (by first | omega | assumption), if_neg (by first | omega | assumption), if_pos (by first | omega | assumption)]; done) | (rw [if_neg (by first | omega | assumption), if_neg (by first | omega | assumption), if_neg (by first | omega | assumption), if_pos (by first | omega | assumption), if_pos (by first | omega | assumption)]; done) | (rw [if_neg (by first | omega | assumption), if_neg (by first | omega | assumption), if_neg (by first | omega | assumption), if_pos (by first | omega | assumption), if_neg (by first | omega | assumption)]; done) | (rw [if_neg (by first | omega | assumption), if_neg (by first | omega | assumption), if_neg (by first | omega | assumption), if_neg (by first | omega | assumption), if_pos (by first | omega | assumption)]; done) | (rw [if_neg (by first | omega | assumption), if_neg (by first | omega | assumption), if_neg (by first | omega | assumption), if_neg (by first | omega | assumption), if_neg (by first | omega | assumption)]; done)
    · refine r_ret0 dX11_happens_36 rfl ?_
      refine ⟨rfl, rfl, ?_⟩
      unfold hpM
      first | (rw [if_pos (by first | omega | assumption), if_pos (by first | omega | assumption)]; done) | (rw [if_pos (by first | omega | assumption), if_neg (by first | omega | assumption)]; done) | (rw [if_neg (by first | omega | assumption), if_pos (by first | omega | assumption)]; done) | (rw [if_neg (by first | omega | assumption), if_neg (by first | omega | assumption), if_pos (by first | omega | assumption)]; done) | (rw [if_neg (by first | omega | assumption), if_neg (by first | omega | assumption), if_neg (by first | omega | assumption), if_pos (by first | omega | assumption), if_pos (by first | omega | assumption)]; done) | (rw [if_neg (by first | omega | assumption), if_neg (by first | omega | assumption), if_neg (by first | omega | assumption), if_pos (by first | omega | assumption), if_neg (by first | omega | assumption)]; done) | (rw [if_neg (by first | omega | assumption), if_neg (by first | omega | assumption), if_neg (by first | omega | assumption), if_neg (by first | omega | assumption), if_pos (by first | omega | assumption)]; done) | (rw [if_neg (by first | omega | assumption), if_neg (by first | omega | assumption), if_neg (by first | omega | assumption), if_neg (by first | omega | assumption), if_neg (by first | omega | assumption)]; done)
  · refine r_aload_n dX11_happens_8 rfl (by decide) ?_
    refine r_getr (x := 430) dX11_happens_9 flX11_7 sf429 (by decide) (by decide) rfl rfl ?_
    refine r_bipush dX11_happens_12 (by decide) (by decide) ?_
    refine r_iald dX11_happens_14 sf430 (by decide) (by omega) (by omega) (by decide) rfl ?_
    refine r_sipush dX11_happens_15 (by decide) (by decide) ?_
    refine r_icmp_ge (tgt := 25) dX11_happens_18 (by decide) (fun h18 => ?_) (fun h18 => ?_)
    · refine r_ret0 dX11_happens_25 rfl ?_
      refine ⟨rfl, rfl, ?_⟩
      unfold hpM
      first | (rw [if_pos (by first | omega | assumption), if_pos (by first | omega | assumption)]; done) | (rw [if_pos (by first | omega | assumption), if_neg (by first | omega | assumption)]; done) | (rw [if_neg (by first | omega | assumption), if_pos (by first | omega | assumption)]; done) | (rw [if_neg (by first | omega | assumption), if_neg (by first | omega | assumption), if_pos (by first | omega | assumption)]; done) | (rw [if_neg (by first | omega | assumption), if_neg (by first | omega | assumption), if_neg (by first | omega | assumption), if_pos (by first | omega | assumption), if_pos (by first | omega | assumption)]; done) | (rw [if_neg (by first | omega | assumption), if_neg (by first | omega | assumption), if_neg (by first | omega | assumption), if_pos (by first | omega | assumption), if_neg (by first | omega | assumption)]; done) | (rw [if_neg (by first | omega | assumption), if_neg (by first | omega | assumption), if_neg (by first | omega | assumption), if_neg (by first | omega | assumption), if_pos (by first | omega | assumption)]; done) | (rw [if_neg (by first | omega | assumption), if_neg (by first | omega | assumption), if_neg (by first | omega | assumption), if_neg (by first | omega | assumption), if_neg (by first | omega | assumption)]; done)
    · refine r_aload_n dX11_happens_21 rfl (by decide) ?_
      refine r_cw0 dX11_happens_22 clX11_351 sf429 (by decide) (by decide) rfl (by first | decide | omega) (Nat.le_of_ble_eq_true rfl) ((m_pass hn hn12 (wa_10 h.1) (fun c h0 h1 => wc_0 h.1 (by omega)))) ⟨Nat.zero_le _, Nat.zero_le _⟩ ?_
      refine r_ret0 dX11_happens_25 rfl ?_
      refine ⟨rfl, rfl, ?_⟩
      unfold hpM
      first | (rw [if_pos (by first | omega | assumption), if_pos (by first | omega | assumption)]; done) | (rw [if_pos (by first | omega | assumption), if_neg (by first | omega | assumption)]; done) | (rw [if_neg (by first | omega | assumption), if_pos (by first | omega | assumption)]; done) | (rw [if_neg (by first | omega | assumption), if_neg (by first | omega | assumption), if_pos (by first | omega | assumption)]; done) | (rw [if_neg (by first | omega | assumption), if_neg (by first | omega | assumption), if_neg (by first | omega | assumption), if_pos (by first | omega | assumption), if_pos (by first | omega | assumption)]; done) | (rw [if_neg (by first | omega | assumption), if_neg (by first | omega | assumption), if_neg (by first | omega | assumption), if_pos (by first | omega | assumption), if_neg (by first | omega | assumption)]; done) | (rw [if_neg (by first | omega | assumption), if_neg (by first | omega | assumption), if_neg (by first | omega | assumption), if_neg (by first | omega | assumption), if_pos (by first | omega | assumption)]; done) | (rw [if_neg (by first | omega | assumption), if_neg (by first | omega | assumption), if_neg (by first | omega | assumption), if_neg (by first | omega | assumption), if_neg (by first | omega | assumption)]; done)
def seA (M : Me) (u : Int) : Me := up (kpA M) 430 11 (u * 2 + 167)
theorem hy_se {M : Me} (h : HY M) {u : Int} (hu : 0 ≤ u ∧ u ≤ 9999) : HY (seA M u) := (hy_kp h).of (wu_11 (hy_kp h).1 (by omega)) (up_ne (by omega)) (up_ne (by omega)) (funext (fun j => up_ne (by omega)))
def oSeV (M : Me) (n : Nat) (u k : Int) : Int := if (0 ≤ u ∧ u ≤ 9999) ∧ (1 ≤ k ∧ k ≤ 40) then ssS (seA M u) n k.toNat 430 10 else -1
def oSeM (M : Me) (n : Nat) (u k : Int) : Me := if (0 ≤ u ∧ u ≤ 9999) ∧ (1 ≤ k ∧ k ≤ 40) then ssS (seA M u) n k.toNat else M
theorem l_seasons {x y z : Int} {M : Me} (h : HY M) {n : Nat} (hn : M 430 14 = (n : Int)) (hn12 : n ≤ 12) {u : Int} {N : Nat} : ∀ (m i : Nat), m + i = N → N ≤ 40 → V kX11_seasons 0 0 10 none (Ex (some (0, ssS M n N 430 10)) (Sf x y z) (ssS M n N)) 43 [(1, 429), (0, u), (0, (N : Int)), (0, (i : Int)), (9, 0)] [] (Sf x y z) (ssS M n i) 0 0 := by
  intro m
  induction m with
  | zero =>
    intro i hi hN
    obtain rfl : i = N := by omega
    refine r_iload_n dX11_seasons_43 rfl ?_
    refine r_iload_n dX11_seasons_44 rfl ?_
    refine r_icmp_ge (tgt := 73) dX11_seasons_45 (by decide) (fun h45 => ?_) (fun h45 => by exfalso; omega)
    refine r_aload_n dX11_seasons_73 rfl (by decide) ?_
    refine r_getr (x := 430) dX11_seasons_74 flX11_7 sf429 (by decide) (by decide) rfl rfl ?_
    refine r_bipush dX11_seasons_77 (by decide) (by decide) ?_
    refine r_iald dX11_seasons_79 sf430 (by decide) (by omega) (by omega) (by decide) rfl ?_
    refine r_iret dX11_seasons_80 rfl ?_
    exact ⟨rfl, rfl, rfl⟩
  | succ m ih =>
    intro i hi hN
    have hI := ssS_o h hn12 i
    have h11 := wa_11 hI.1.1
    have e2 : drA (ssS M n i) 430 14 = (n : Int) := (up_ne (by omega)).trans ((hI.2 430 14 (by omega) (by omega)).trans hn)
    refine r_iload_n dX11_seasons_43 rfl ?_
    refine r_iload_n dX11_seasons_44 rfl ?_
    refine r_icmp_ge (tgt := 73) dX11_seasons_45 (by decide) (fun h45 => by exfalso; omega) (fun h45 => ?_)
    refine r_aload_n dX11_seasons_48 rfl (by decide) ?_
    refine r_getr (x := 430) dX11_seasons_49 flX11_7 sf429 (by decide) (by decide) rfl rfl ?_
    refine r_bipush dX11_seasons_52 (by decide) (by decide) ?_
    refine r_iald dX11_seasons_54 sf430 (by decide) (by omega) (by omega) (by decide) rfl ?_
    refine r_istore dX11_seasons_55 rfl (by decide) st4 ?_
    refine r_aload_n dX11_seasons_57 rfl (by decide) ?_
    refine r_cw0 dX11_seasons_58 clX11_327 sf429 (by decide) (by decide) rfl (by first | decide | omega) (Nat.le_of_ble_eq_true rfl) ((m_anew (by omega))) ⟨Nat.zero_le _, Nat.zero_le _⟩ ?_
    refine V.cm rfl (show _ = drA (ssS M n i) from rfl) ?_
    refine r_aload_n dX11_seasons_61 rfl (by decide) ?_
    refine r_iload dX11_seasons_62 rfl ?_
    refine r_cw1 dX11_seasons_64 clX11_381 sf429 (by decide) (by decide) rfl (by first | decide | omega) (Nat.le_of_ble_eq_true rfl) ((m_happens (hy_dr hI.1) e2 hn12 (by omega))) ⟨Nat.zero_le _, Nat.zero_le _⟩ ?_
    refine V.cm rfl (show _ = ssS M n (i + 1) from rfl) ?_
    refine r_iinc dX11_seasons_67 rfl rfl (by decide) (w32_id (by omega)) st3 ?_
    refine r_goto (tgt := 43) dX11_seasons_70 (by decide) ?_
    exact wk4 (ih (i + 1) (by omega) hN)
theorem m_seasons {x y z : Int} {M : Me} (h : HY M) {n : Nat} (hn : M 430 14 = (n : Int)) (hn12 : n ≤ 12) {u k : Int} : Con kX11_seasons 10 0 0 [(1, 429), (0, u), (0, k)] (Sf x y z) M (Ex (some (0, oSeV M n u k)) (Sf x y z) (oSeM M n u k)) := by
  refine Con.ofV (al := [(1, 429), (0, u), (0, k), (9, 0), (9, 0)]) 2 (by decide) (Nat.le_of_ble_eq_true rfl) rfl ?_
  have e2 : seA M u 430 14 = (n : Int) := (up_ne (by omega)).trans ((kpA_o (wa_3 h.1) (by omega)).trans hn)
  refine r_iload_n dX11_seasons_0 rfl ?_
  refine r_iconst dX11_seasons_1 (by decide) ?_
  refine r_sipush dX11_seasons_2 (by decide) (by decide) ?_
  refine r_cs3 dX11_seasons_5 clX11_62 (by first | decide | omega) (Nat.le_of_ble_eq_true rfl) (c_isIn) ⟨Nat.zero_le _, Nat.zero_le _⟩ (fun _ => ?_)
  refine r_if_eq (tgt := 21) dX11_seasons_8 (by decide) (fun h8 => ?_) (fun h8 => ?_)
  · try have h8 := bi_0.mp h8
    refine r_iconst dX11_seasons_21 (by decide) ?_
    refine r_iret dX11_seasons_22 rfl ?_
    exact ⟨by rw [show oSeV M n u k = -1 from if_neg (by omega)], rfl, by rw [show oSeM M n u k = M from if_neg (by omega)]⟩
  · try have h8 := bi_1.mp h8
    refine r_iload_n dX11_seasons_11 rfl ?_
    refine r_iconst dX11_seasons_12 (by decide) ?_
    refine r_bipush dX11_seasons_13 (by decide) (by decide) ?_
    refine r_cs3 dX11_seasons_15 clX11_62 (by first | decide | omega) (Nat.le_of_ble_eq_true rfl) (c_isIn) ⟨Nat.zero_le _, Nat.zero_le _⟩ (fun _ => ?_)
    refine r_if_ne (tgt := 23) dX11_seasons_18 (by decide) (fun h18 => ?_) (fun h18 => ?_)
    · try have h18 := bi_1.mp h18
      refine r_aload_n dX11_seasons_23 rfl (by decide) ?_
      refine r_cw0 dX11_seasons_24 clX11_342 sf429 (by decide) (by decide) rfl (by first | decide | omega) (Nat.le_of_ble_eq_true rfl) ((m_keep (wa_3 h.1))) ⟨Nat.zero_le _, Nat.zero_le _⟩ ?_
      refine r_aload_n dX11_seasons_27 rfl (by decide) ?_
      refine r_getr (x := 430) dX11_seasons_28 flX11_7 sf429 (by decide) (by decide) rfl rfl ?_
      refine r_bipush dX11_seasons_31 (by decide) (by decide) ?_
      refine r_iload_n dX11_seasons_33 rfl ?_
      refine r_iconst dX11_seasons_34 (by decide) ?_
      refine r_imul dX11_seasons_35 (w32_id (by omega)) ?_
      refine r_sipush dX11_seasons_36 (by decide) (by decide) ?_
      refine r_iadd dX11_seasons_39 (w32_id (by omega)) ?_
      refine r_iast dX11_seasons_40 sf430 (by decide) (by omega) (by omega) (by decide) rfl ?_
      refine V.cm rfl (show _ = seA M u from rfl) ?_
      refine r_iconst dX11_seasons_41 (by decide) ?_
      refine r_istore_n dX11_seasons_42 rfl (by decide) st3 ?_
      obtain ⟨N, rfl⟩ := Int.eq_ofNat_of_zero_le (show 0 ≤ k by omega)
      have e : ∀ A B : Int, (if (0 ≤ u ∧ u ≤ 9999) ∧ (1 ≤ (N : Int) ∧ (N : Int) ≤ 40) then A else B) = A := fun A B => if_pos (by omega)
      rw [show oSeV M n u N = ssS (seA M u) n N 430 10 from if_pos (by omega), show oSeM M n u N = ssS (seA M u) n N from if_pos (by omega)]
      exact l_seasons (hy_se h (by omega)) e2 hn12 N 0 (by omega) (by omega)
    · try have h18 := bi_0.mp h18
      refine r_iconst dX11_seasons_21 (by decide) ?_
      refine r_iret dX11_seasons_22 rfl ?_
      exact ⟨by rw [show oSeV M n u k = -1 from if_neg (by omega)], rfl, by rw [show oSeM M n u k = M from if_neg (by omega)]⟩
