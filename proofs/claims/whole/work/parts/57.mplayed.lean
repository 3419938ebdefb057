abbrev oPeC (M : Me) (s c : Int) : Prop := (0 ≤ s ∧ s ≤ 2) ∧ (0 ≤ c ∧ c ≤ 9999) ∧ M 430 0 ≠ 5
def oPeV (M : Me) (s c : Int) : Int := if oPeC M s c then M 430 0 else -1
def oPeM (M : Me) (s c : Int) : Me := if oPeC M s c then up (up (up (up M 430 (99 + 3 * M 430 0) c) 430 (99 + 3 * M 430 0 + 1) s) 430 (99 + 3 * M 430 0 + 2) c) 430 0 (M 430 0 + 1) else M
abbrev oCrC (M : Me) (p t d g : Int) : Prop := (0 ≤ p ∧ p ≤ M 430 0 - 1) ∧ (0 ≤ t ∧ t ≤ 99) ∧ (1 ≤ d ∧ d ≤ 9) ∧ (-9 ≤ g ∧ g ≤ 9) ∧ M 430 14 ≠ 12
def oCrV (M : Me) (p t d g : Int) : Int := if oCrC M p t d g then M 430 14 else -1
def oCrM (M : Me) (p t d g : Int) : Me := if oCrC M p t d g then up (up (up (up (up (up (up (up M 430 (15 + 7 * M 430 14 + 2) p) 430 (15 + 7 * M 430 14 + 3) t) 430 (15 + 7 * M 430 14 + 4) d) 430 (15 + 7 * M 430 14 + 5) g) 430 (15 + 7 * M 430 14 + 6) 0) 430 (15 + 7 * M 430 14 + 0) d) 430 (15 + 7 * M 430 14 + 1) 0) 430 14 (M 430 14 + 1) else M
abbrev oTiC (M : Me) (c e : Int) : Prop := (0 ≤ c ∧ c ≤ M 430 14 - 1) ∧ (0 ≤ e ∧ e ≤ M 430 14 - 1) ∧ c ≠ e ∧ ¬ and32 (shr32 (M 430 (15 + 7 * c + 6)) e) 1 = 1
def oTiV (M : Me) (c e : Int) : Int := if oTiC M c e then 1 else 0
def oTiM (M : Me) (c e : Int) : Me := if oTiC M c e then up M 430 (15 + 7 * c + 6) (or32 (M 430 (15 + 7 * c + 6)) (shl32 1 e)) else M
abbrev oHeC (M : Me) (g : Int) : Prop := 0 ≤ g ∧ g ≤ 9
def oHeV (M : Me) (g : Int) : Int := if oHeC M g then 1 else 0
def oHeM (M : Me) (g : Int) : Me := if oHeC M g then up M 430 13 g else M
abbrev oPaC (M : Me) (n : Nat) (c : Int) : Prop := (0 ≤ c ∧ c ≤ M 430 14 - 1) ∧ cbk M n c
def oPaV (M : Me) (n : Nat) (c : Int) : Int := if oPaC M n c then 1 else 0
def oPaM (M : Me) (n : Nat) (c : Int) : Me := if oPaC M n c then bcA (kpA M) c 0 (M 430 (15 + 7 * c + 4)) else M
abbrev oDaC (M : Me) (n : Nat) (k : Int) : Prop := 1 ≤ k ∧ k ≤ 9
def oDaV (M : Me) (n : Nat) (k : Int) : Int := if oDaC M n k then (dmS (kpA M) n k n).2 else -1
def oDaM (M : Me) (n : Nat) (k : Int) : Me := if oDaC M n k then (dmS (kpA M) n k n).1 else M
abbrev oApC (M : Me) (n : Nat) (k : Nat) : Prop := M 430 10 + k ≤ 9999
def oApV (M : Me) (n : Nat) (k : Nat) : Int := if oApC M n k then 1 else 0
def oApM (M : Me) (n : Nat) (k : Nat) : Me := if oApC M n k then apS M n k else apS M n (9999 - M 430 10).toNat
theorem m_oPe {x y z : Int} {M : Me} {s c : Int} (h0 : 0 ≤ M 430 0 ∧ M 430 0 ≤ 5) : Con kX11_person 1 0 0 [(1, 429), (0, s), (0, c)] (Sf x y z) M (Ex (some (0, oPeV M s c)) (Sf x y z) (oPeM M s c)) := Con.c2v (m_person h0) (fun q => q)
theorem m_oCr {x y z : Int} {M : Me} {p t d g : Int} (h0 : 0 ≤ M 430 0 ∧ M 430 0 ≤ 5) (h14 : 0 ≤ M 430 14 ∧ M 430 14 ≤ 12) : Con kX11_crease 2 0 0 [(1, 429), (0, p), (0, t), (0, d), (0, g)] (Sf x y z) M (Ex (some (0, oCrV M p t d g)) (Sf x y z) (oCrM M p t d g)) := Con.c2v (m_crease h0 h14) (fun q => q)
theorem m_oTi {x y z : Int} {M : Me} {c e : Int} (h14 : 0 ≤ M 430 14 ∧ M 430 14 ≤ 12) : Con kX11_tie 2 0 0 [(1, 429), (0, c), (0, e)] (Sf x y z) M (Ex (some (0, oTiV M c e)) (Sf x y z) (oTiM M c e)) := Con.c2v (m_tie h14) (fun q => q)
theorem m_oHe {x y z : Int} {M : Me} {g : Int} : Con kX11_heat 1 0 0 [(1, 429), (0, g)] (Sf x y z) M (Ex (some (0, oHeV M g)) (Sf x y z) (oHeM M g)) := Con.c2v m_heat (fun q => q)
theorem m_oPa {x y z : Int} {M : Me} (hW : WA M) {n : Nat} (hn : M 430 14 = (n : Int)) (hn12 : n ≤ 12) {c : Int} : Con kX11_pattern 5 0 0 [(1, 429), (0, c)] (Sf x y z) M (Ex (some (0, oPaV M n c)) (Sf x y z) (oPaM M n c)) := Con.c2v (m_pattern hW hn hn12) (fun q => q)
theorem m_oDa {x y z : Int} {M : Me} (hW : WA M) {n : Nat} (hn : M 430 14 = (n : Int)) (hn12 : n ≤ 12) {k : Int} : Con kX11_damp 5 0 0 [(1, 429), (0, k)] (Sf x y z) M (Ex (some (0, oDaV M n k)) (Sf x y z) (oDaM M n k)) := Con.c2v (m_damp hW hn hn12) (fun q => q)
theorem m_oAp {x y z : Int} {M : Me} (hW : WA M) {n : Nat} (hn : M 430 14 = (n : Int)) (hn12 : n ≤ 12) {k : Int} (hk : 0 ≤ k) : Con kX11_arePassed 3 0 0 [(1, 429), (0, k)] (Sf x y z) M (Ex (some (0, oApV M n k.toNat)) (Sf x y z) (oApM M n k.toNat)) := by
  obtain ⟨k, rfl⟩ := Int.eq_ofNat_of_zero_le hk
  exact Con.c2v (m_arePassed hW hn hn12) (fun q => by show ¬ (M 430 10 + (k : Int) ≤ 9999); omega)
theorem hy_Pe {M : Me} (h : HY M) {s c : Int} : HY (oPeM M s c) := by
  unfold oPeM
  split
  · rename_i q
    have h0 := wa_0 h.1
    have h1 := xp_0 h.1 (c := M 430 0) (v := c) (by omega) (by omega)
    rw [Int.add_zero] at h1
    exact h.of (wu_0 (xp_2 (xp_1 h1 (by omega) (by omega)) (by omega) (by omega)) (by omega)) (by rw [up_ne (by omega), up_ne (by omega), up_ne (by omega), up_ne (by omega)]) (by rw [up_ne (by omega), up_ne (by omega), up_ne (by omega), up_ne (by omega)]) (funext (fun j => by rw [up_ne (by omega), up_ne (by omega), up_ne (by omega), up_ne (by omega)]))
  · exact h
theorem hy_Cr {M : Me} (h : HY M) {p t d g : Int} : HY (oCrM M p t d g) := by
  unfold oCrM
  split
  · rename_i q
    have h0 := wa_0 h.1
    have h14 := wa_14 h.1
    have hc : 0 ≤ M 430 14 ∧ M 430 14 < 12 := by omega
    exact h.of (wu_14 (wcu_1 (wcu_0 (wcu_6 (wcu_5 (wcu_4 (wcu_3 (wcu_2 h.1 hc (by omega)) hc (by omega)) hc (by omega)) hc (by omega)) hc (by decide)) hc (by omega)) hc (by decide)) (by omega)) (by rw [up_ne (by omega), up_ne (by omega), up_ne (by omega), up_ne (by omega), up_ne (by omega), up_ne (by omega), up_ne (by omega), up_ne (by omega)]) (by rw [up_ne (by omega), up_ne (by omega), up_ne (by omega), up_ne (by omega), up_ne (by omega), up_ne (by omega), up_ne (by omega), up_ne (by omega)]) (funext (fun j => by rw [up_ne (by omega), up_ne (by omega), up_ne (by omega), up_ne (by omega), up_ne (by omega), up_ne (by omega), up_ne (by omega), up_ne (by omega)]))
  · exact h
theorem hy_Ti {M : Me} (h : HY M) {c e : Int} : HY (oTiM M c e) := by
  unfold oTiM
  split
  · rename_i q
    have h14 := wa_14 h.1
    have b := wc_6 h.1 (c := c) (by omega)
    have b2 := or4 (a := M 430 (15 + 7 * c + 6)) (b := shl32 1 e) (by omega) (shl4i (by omega))
    exact h.of (wcu_6 h.1 (by omega) (by omega)) (up_ne (by omega)) (up_ne (by omega)) (funext (fun j => up_ne (by omega)))
  · exact h
theorem hy_He {M : Me} (h : HY M) {g : Int} : HY (oHeM M g) := by
  unfold oHeM
  split
  · exact h.of (wu_13 h.1 (by assumption)) (up_ne (by omega)) (up_ne (by omega)) (funext (fun j => up_ne (by omega)))
  · exact h
theorem hy_Pa {M : Me} (h : HY M) {n : Nat} {c : Int} : HY (oPaM M n c) := by
  unfold oPaM
  split
  · rename_i q
    have h14 := wa_14 h.1
    have h4 := wc_4 h.1 (c := c) (by omega)
    exact hy_bc (hy_kp h) (by omega) (by decide) h4
  · exact h
theorem hy_Da {M : Me} (h : HY M) {n : Nat} (hn12 : n ≤ 12) {k : Int} : HY (oDaM M n k) := by
  unfold oDaM
  split
  · exact hy_dm (hy_kp h) hn12
  · exact h
theorem hy_ap {M : Me} (h : HY M) {n : Int} (hn : n ≤ 12) {i : Nat} (hi : M 430 10 + i ≤ 9999) : HY (apS M n i) := by
  obtain ⟨h1, -, h3⟩ := apS_w h.1 hn i hi
  exact h.of h1 (h3 _ _ (by omega)) (h3 _ _ (by omega)) (funext (fun j => h3 _ _ (by omega)))
theorem hy_Ap {M : Me} (h : HY M) {n : Nat} (hn12 : n ≤ 12) {k : Nat} : HY (oApM M n k) := by
  have h10 := wa_10 h.1
  unfold oApM
  split
  · exact hy_ap h (by omega) (by assumption)
  · exact hy_ap h (by omega) (by omega)
theorem hy_prs {M : Me} (h : HY M) {n : Nat} (hn12 : n ≤ 12) {c : Int} : HY (prsM M n c) := by
  have h14 := wa_14 h.1
  unfold prsM
  split
  · exact (pnM_o (hy_kp h) hn12 (by omega)).1
  · exact h
abbrev nC (M : Me) : Nat := (M 430 14).toNat
theorem HY.n {M : Me} (h : HY M) : M 430 14 = (nC M : Int) ∧ nC M ≤ 12 := by
  have := wa_14 h.1
  exact ⟨(Int.toNat_of_nonneg this.1).symm, by show (M 430 14).toNat ≤ 12; omega⟩
theorem HY.of2 {M N : Me} (h : HY M) (hT : N 432 = M 432) (hN : HY N) : N 432 = M 432 := hT
def plV (M : Me) (x9 : Int) : Int := if M 432 x9 = 3 then (if oPeV M (M 432 (x9 + 1)) (M 432 (x9 + 2)) < 0 then 0 else 1) else if M 432 x9 = 4 then (if oCrV M (M 432 (x9 + 1)) (M 432 (x9 + 2)) (M 432 (x9 + 3)) 1 < 0 then 0 else 1) else if M 432 x9 = 5 then oTiV M (M 432 (x9 + 1)) (M 432 (x9 + 2)) else if M 432 x9 = 6 then oHeV M (M 432 (x9 + 1)) else if M 432 x9 = 7 then (if prsV M (nC M) (M 432 (x9 + 1)) < 0 then 0 else 1) else if M 432 x9 = 8 then oPaV M (nC M) (M 432 (x9 + 1)) else if M 432 x9 = 9 then (if oDaV M (nC M) (M 432 (x9 + 1)) < 0 then 0 else 1) else if M 432 x9 = 10 then oApV M (nC M) (M 432 (x9 + 1)).toNat else 1
def plM (M : Me) (x9 : Int) : Me := if M 432 x9 = 3 then oPeM M (M 432 (x9 + 1)) (M 432 (x9 + 2)) else if M 432 x9 = 4 then oCrM M (M 432 (x9 + 1)) (M 432 (x9 + 2)) (M 432 (x9 + 3)) 1 else if M 432 x9 = 5 then oTiM M (M 432 (x9 + 1)) (M 432 (x9 + 2)) else if M 432 x9 = 6 then oHeM M (M 432 (x9 + 1)) else if M 432 x9 = 7 then prsM M (nC M) (M 432 (x9 + 1)) else if M 432 x9 = 8 then oPaM M (nC M) (M 432 (x9 + 1)) else if M 432 x9 = 9 then oDaM M (nC M) (M 432 (x9 + 1)) else if M 432 x9 = 10 then oApM M (nC M) (M 432 (x9 + 1)).toNat else M
theorem m_isPlayed {x y z : Int} {M : Me} (h : HY M) {x9 : Int} (hx : 0 ≤ x9 ∧ x9 + 3 < 2820) (hA : M 432 x9 = 10 → 0 ≤ M 432 (x9 + 1)) : Con kX11_isPlayed 9 0 0 [(1, 429), (0, x9)] (Sf x y z) M (Ex (some (0, plV M x9)) (Sf x y z) (plM M x9)) := by
  refine Con.ofV (al := [(1, 429), (0, x9), (9, 0), (9, 0)]) 2 (by decide) (Nat.le_of_ble_eq_true rfl) rfl ?_
  obtain ⟨hn, hn12⟩ := h.n
  refine r_aload_n dX11_isPlayed_0 rfl (by decide) ?_
  refine r_getr (x := 432) dX11_isPlayed_1 flX11_16 sf429 (by decide) (by decide) rfl rfl ?_
  refine r_iload_n dX11_isPlayed_4 rfl ?_
  refine r_iconst dX11_isPlayed_5 (by decide) ?_
  refine r_iadd dX11_isPlayed_6 (w32_id (by omega)) ?_
  refine r_iald dX11_isPlayed_7 sf432 (by decide) (by omega) (by omega) (by decide) rfl ?_
  refine r_istore_n dX11_isPlayed_8 rfl (by decide) st2 ?_
  refine r_aload_n dX11_isPlayed_9 rfl (by decide) ?_
  refine r_getr (x := 432) dX11_isPlayed_10 flX11_16 sf429 (by decide) (by decide) rfl rfl ?_
  refine r_iload_n dX11_isPlayed_13 rfl ?_
  refine r_iconst dX11_isPlayed_14 (by decide) ?_
  refine r_iadd dX11_isPlayed_15 (w32_id (by omega)) ?_
  refine r_iald dX11_isPlayed_16 sf432 (by decide) (by omega) (by omega) (by decide) rfl ?_
  refine r_istore_n dX11_isPlayed_17 rfl (by decide) st3 ?_
  refine r_aload_n dX11_isPlayed_18 rfl (by decide) ?_
  refine r_getr (x := 432) dX11_isPlayed_19 flX11_16 sf429 (by decide) (by decide) rfl rfl ?_
  refine r_iload_n dX11_isPlayed_22 rfl ?_
  refine r_iald dX11_isPlayed_23 sf432 (by decide) (by omega) (by omega) (by decide) rfl ?_
  rcases (show (M 432 x9 < 3 ∨ 10 < M 432 x9) ∨ M 432 x9 = 3 ∨ M 432 x9 = 4 ∨ M 432 x9 = 5 ∨ M 432 x9 = 6 ∨ M 432 x9 = 7 ∨ M 432 x9 = 8 ∨ M 432 x9 = 9 ∨ M 432 x9 = 10 by omega) with hsw | hsw | hsw | hsw | hsw | hsw | hsw | hsw | hsw
  · refine r_tabOut (tgt := 164) dX11_isPlayed_24 hsw (by decide) ?_
    refine r_iconst dX11_isPlayed_164 (by decide) ?_
    refine r_zret dX11_isPlayed_165 rfl (by omega) ?_
    exact ⟨by unfold plV; rw [if_neg (by omega), if_neg (by omega), if_neg (by omega), if_neg (by omega), if_neg (by omega), if_neg (by omega), if_neg (by omega), if_neg (by omega)], rfl, by unfold plM; rw [if_neg (by omega), if_neg (by omega), if_neg (by omega), if_neg (by omega), if_neg (by omega), if_neg (by omega), if_neg (by omega), if_neg (by omega)]⟩
  · refine r_tabEq (tgt := 72) dX11_isPlayed_24 hsw (by decide) (by decide) rfl (by decide) ?_
    refine r_aload_n dX11_isPlayed_72 rfl (by decide) ?_
    refine r_iload_n dX11_isPlayed_73 rfl ?_
    refine r_iload_n dX11_isPlayed_74 rfl ?_
    refine r_cv2 dX11_isPlayed_75 clX11_357 sf429 (by decide) (by decide) rfl (by first | decide | omega) (Nat.le_of_ble_eq_true rfl) ((m_oPe (wa_0 h.1))) ⟨Nat.zero_le _, Nat.zero_le _⟩ (fun _ => ?_)
    refine r_if_lt (tgt := 85) dX11_isPlayed_78 (by decide) (fun h78 => ?_) (fun h78 => ?_)
    · refine r_iconst dX11_isPlayed_85 (by decide) ?_
      refine r_zret dX11_isPlayed_86 rfl (by omega) ?_
      first | exact ⟨by unfold plV; rw [if_pos (by omega), if_pos (by assumption)], rfl, by unfold plM; rw [if_pos (by omega)]⟩ | exact ⟨by unfold plV; rw [if_pos (by omega), if_neg (by omega)], rfl, by unfold plM; rw [if_pos (by omega)]⟩
    · refine r_iconst dX11_isPlayed_81 (by decide) ?_
      refine r_goto (tgt := 86) dX11_isPlayed_82 (by decide) ?_
      refine r_zret dX11_isPlayed_86 rfl (by omega) ?_
      first | exact ⟨by unfold plV; rw [if_pos (by omega), if_pos (by assumption)], rfl, by unfold plM; rw [if_pos (by omega)]⟩ | exact ⟨by unfold plV; rw [if_pos (by omega), if_neg (by omega)], rfl, by unfold plM; rw [if_pos (by omega)]⟩
  · refine r_tabEq (tgt := 87) dX11_isPlayed_24 hsw (by decide) (by decide) rfl (by decide) ?_
    refine r_aload_n dX11_isPlayed_87 rfl (by decide) ?_
    refine r_iload_n dX11_isPlayed_88 rfl ?_
    refine r_iload_n dX11_isPlayed_89 rfl ?_
    refine r_aload_n dX11_isPlayed_90 rfl (by decide) ?_
    refine r_getr (x := 432) dX11_isPlayed_91 flX11_16 sf429 (by decide) (by decide) rfl rfl ?_
    refine r_iload_n dX11_isPlayed_94 rfl ?_
    refine r_iconst dX11_isPlayed_95 (by decide) ?_
    refine r_iadd dX11_isPlayed_96 (w32_id (by omega)) ?_
    refine r_iald dX11_isPlayed_97 sf432 (by decide) (by omega) (by omega) (by decide) rfl ?_
    refine r_iconst dX11_isPlayed_98 (by decide) ?_
    refine r_cv4 dX11_isPlayed_99 clX11_360 sf429 (by decide) (by decide) rfl (by first | decide | omega) (Nat.le_of_ble_eq_true rfl) ((m_oCr (wa_0 h.1) (wa_14 h.1))) ⟨Nat.zero_le _, Nat.zero_le _⟩ (fun _ => ?_)
    refine r_if_lt (tgt := 109) dX11_isPlayed_102 (by decide) (fun h102 => ?_) (fun h102 => ?_)
    · refine r_iconst dX11_isPlayed_109 (by decide) ?_
      refine r_zret dX11_isPlayed_110 rfl (by omega) ?_
      first | exact ⟨by unfold plV; rw [if_neg (by omega), if_pos (by omega), if_pos (by assumption)], rfl, by unfold plM; rw [if_neg (by omega), if_pos (by omega)]⟩ | exact ⟨by unfold plV; rw [if_neg (by omega), if_pos (by omega), if_neg (by omega)], rfl, by unfold plM; rw [if_neg (by omega), if_pos (by omega)]⟩
    · refine r_iconst dX11_isPlayed_105 (by decide) ?_
      refine r_goto (tgt := 110) dX11_isPlayed_106 (by decide) ?_
      refine r_zret dX11_isPlayed_110 rfl (by omega) ?_
      first | exact ⟨by unfold plV; rw [if_neg (by omega), if_pos (by omega), if_pos (by assumption)], rfl, by unfold plM; rw [if_neg (by omega), if_pos (by omega)]⟩ | exact ⟨by unfold plV; rw [if_neg (by omega), if_pos (by omega), if_neg (by omega)], rfl, by unfold plM; rw [if_neg (by omega), if_pos (by omega)]⟩
  · refine r_tabEq (tgt := 111) dX11_isPlayed_24 hsw (by decide) (by decide) rfl (by decide) ?_
    refine r_aload_n dX11_isPlayed_111 rfl (by decide) ?_
    refine r_iload_n dX11_isPlayed_112 rfl ?_
    refine r_iload_n dX11_isPlayed_113 rfl ?_
    refine r_cv2 dX11_isPlayed_114 clX11_363 sf429 (by decide) (by decide) rfl (by first | decide | omega) (Nat.le_of_ble_eq_true rfl) ((m_oTi (wa_14 h.1))) ⟨Nat.zero_le _, Nat.zero_le _⟩ (fun _ => ?_)
    refine r_zret dX11_isPlayed_117 rfl (by unfold oTiV; split <;> decide) ?_
    exact ⟨by unfold plV; rw [if_neg (by omega), if_neg (by omega), if_pos (by omega)], rfl, by unfold plM; rw [if_neg (by omega), if_neg (by omega), if_pos (by omega)]⟩
  · refine r_tabEq (tgt := 118) dX11_isPlayed_24 hsw (by decide) (by decide) rfl (by decide) ?_
    refine r_aload_n dX11_isPlayed_118 rfl (by decide) ?_
    refine r_iload_n dX11_isPlayed_119 rfl ?_
    refine r_cv1 dX11_isPlayed_120 clX11_366 sf429 (by decide) (by decide) rfl (by first | decide | omega) (Nat.le_of_ble_eq_true rfl) (m_oHe) ⟨Nat.zero_le _, Nat.zero_le _⟩ (fun _ => ?_)
    refine r_zret dX11_isPlayed_123 rfl (by unfold oHeV; split <;> decide) ?_
    exact ⟨by unfold plV; rw [if_neg (by omega), if_neg (by omega), if_neg (by omega), if_pos (by omega)], rfl, by unfold plM; rw [if_neg (by omega), if_neg (by omega), if_neg (by omega), if_pos (by omega)]⟩
  · refine r_tabEq (tgt := 124) dX11_isPlayed_24 hsw (by decide) (by decide) rfl (by decide) ?_
    refine r_aload_n dX11_isPlayed_124 rfl (by decide) ?_
    refine r_iload_n dX11_isPlayed_125 rfl ?_
    refine r_cv1 dX11_isPlayed_126 clX11_369 sf429 (by decide) (by decide) rfl (by first | decide | omega) (Nat.le_of_ble_eq_true rfl) ((m_press h hn hn12)) ⟨Nat.zero_le _, Nat.zero_le _⟩ (fun _ => ?_)
    refine r_if_lt (tgt := 136) dX11_isPlayed_129 (by decide) (fun h129 => ?_) (fun h129 => ?_)
    · refine r_iconst dX11_isPlayed_136 (by decide) ?_
      refine r_zret dX11_isPlayed_137 rfl (by omega) ?_
      first | exact ⟨by unfold plV; rw [if_neg (by omega), if_neg (by omega), if_neg (by omega), if_neg (by omega), if_pos (by omega), if_pos (by assumption)], rfl, by unfold plM; rw [if_neg (by omega), if_neg (by omega), if_neg (by omega), if_neg (by omega), if_pos (by omega)]⟩ | exact ⟨by unfold plV; rw [if_neg (by omega), if_neg (by omega), if_neg (by omega), if_neg (by omega), if_pos (by omega), if_neg (by omega)], rfl, by unfold plM; rw [if_neg (by omega), if_neg (by omega), if_neg (by omega), if_neg (by omega), if_pos (by omega)]⟩
    · refine r_iconst dX11_isPlayed_132 (by decide) ?_
      refine r_goto (tgt := 137) dX11_isPlayed_133 (by decide) ?_
      refine r_zret dX11_isPlayed_137 rfl (by omega) ?_
      first | exact ⟨by unfold plV; rw [if_neg (by omega), if_neg (by omega), if_neg (by omega), if_neg (by omega), if_pos (by omega), if_pos (by assumption)], rfl, by unfold plM; rw [if_neg (by omega), if_neg (by omega), if_neg (by omega), if_neg (by omega), if_pos (by omega)]⟩ | exact ⟨by unfold plV; rw [if_neg (by omega), if_neg (by omega), if_neg (by omega), if_neg (by omega), if_pos (by omega), if_neg (by omega)], rfl, by unfold plM; rw [if_neg (by omega), if_neg (by omega), if_neg (by omega), if_neg (by omega), if_pos (by omega)]⟩
  · refine r_tabEq (tgt := 138) dX11_isPlayed_24 hsw (by decide) (by decide) rfl (by decide) ?_
    refine r_aload_n dX11_isPlayed_138 rfl (by decide) ?_
    refine r_iload_n dX11_isPlayed_139 rfl ?_
    refine r_cv1 dX11_isPlayed_140 clX11_372 sf429 (by decide) (by decide) rfl (by first | decide | omega) (Nat.le_of_ble_eq_true rfl) ((m_oPa h.1 hn hn12)) ⟨Nat.zero_le _, Nat.zero_le _⟩ (fun _ => ?_)
    refine r_zret dX11_isPlayed_143 rfl (by unfold oPaV; split <;> decide) ?_
    exact ⟨by unfold plV; rw [if_neg (by omega), if_neg (by omega), if_neg (by omega), if_neg (by omega), if_neg (by omega), if_pos (by omega)], rfl, by unfold plM; rw [if_neg (by omega), if_neg (by omega), if_neg (by omega), if_neg (by omega), if_neg (by omega), if_pos (by omega)]⟩
  · refine r_tabEq (tgt := 144) dX11_isPlayed_24 hsw (by decide) (by decide) rfl (by decide) ?_
    refine r_aload_n dX11_isPlayed_144 rfl (by decide) ?_
    refine r_iload_n dX11_isPlayed_145 rfl ?_
    refine r_cv1 dX11_isPlayed_146 clX11_375 sf429 (by decide) (by decide) rfl (by first | decide | omega) (Nat.le_of_ble_eq_true rfl) ((m_oDa h.1 hn hn12)) ⟨Nat.zero_le _, Nat.zero_le _⟩ (fun _ => ?_)
    refine r_if_lt (tgt := 156) dX11_isPlayed_149 (by decide) (fun h149 => ?_) (fun h149 => ?_)
    · refine r_iconst dX11_isPlayed_156 (by decide) ?_
      refine r_zret dX11_isPlayed_157 rfl (by omega) ?_
      first | exact ⟨by unfold plV; rw [if_neg (by omega), if_neg (by omega), if_neg (by omega), if_neg (by omega), if_neg (by omega), if_neg (by omega), if_pos (by omega), if_pos (by assumption)], rfl, by unfold plM; rw [if_neg (by omega), if_neg (by omega), if_neg (by omega), if_neg (by omega), if_neg (by omega), if_neg (by omega), if_pos (by omega)]⟩ | exact ⟨by unfold plV; rw [if_neg (by omega), if_neg (by omega), if_neg (by omega), if_neg (by omega), if_neg (by omega), if_neg (by omega), if_pos (by omega), if_neg (by omega)], rfl, by unfold plM; rw [if_neg (by omega), if_neg (by omega), if_neg (by omega), if_neg (by omega), if_neg (by omega), if_neg (by omega), if_pos (by omega)]⟩
    · refine r_iconst dX11_isPlayed_152 (by decide) ?_
      refine r_goto (tgt := 157) dX11_isPlayed_153 (by decide) ?_
      refine r_zret dX11_isPlayed_157 rfl (by omega) ?_
      first | exact ⟨by unfold plV; rw [if_neg (by omega), if_neg (by omega), if_neg (by omega), if_neg (by omega), if_neg (by omega), if_neg (by omega), if_pos (by omega), if_pos (by assumption)], rfl, by unfold plM; rw [if_neg (by omega), if_neg (by omega), if_neg (by omega), if_neg (by omega), if_neg (by omega), if_neg (by omega), if_pos (by omega)]⟩ | exact ⟨by unfold plV; rw [if_neg (by omega), if_neg (by omega), if_neg (by omega), if_neg (by omega), if_neg (by omega), if_neg (by omega), if_pos (by omega), if_neg (by omega)], rfl, by unfold plM; rw [if_neg (by omega), if_neg (by omega), if_neg (by omega), if_neg (by omega), if_neg (by omega), if_neg (by omega), if_pos (by omega)]⟩
  · refine r_tabEq (tgt := 158) dX11_isPlayed_24 hsw (by decide) (by decide) rfl (by decide) ?_
    refine r_aload_n dX11_isPlayed_158 rfl (by decide) ?_
    refine r_iload_n dX11_isPlayed_159 rfl ?_
    refine r_cv1 dX11_isPlayed_160 clX11_354 sf429 (by decide) (by decide) rfl (by first | decide | omega) (Nat.le_of_ble_eq_true rfl) ((m_oAp h.1 hn hn12 (hA (by omega)))) ⟨Nat.zero_le _, Nat.zero_le _⟩ (fun _ => ?_)
    refine r_zret dX11_isPlayed_163 rfl (by unfold oApV; split <;> decide) ?_
    exact ⟨by unfold plV; rw [if_neg (by omega), if_neg (by omega), if_neg (by omega), if_neg (by omega), if_neg (by omega), if_neg (by omega), if_neg (by omega), if_pos (by omega)], rfl, by unfold plM; rw [if_neg (by omega), if_neg (by omega), if_neg (by omega), if_neg (by omega), if_neg (by omega), if_neg (by omega), if_neg (by omega), if_pos (by omega)]⟩
theorem row_k {M : Me} (h : HY M) : kpA M 432 = M 432 := funext (fun j => kpA_o (wa_3 h.1) (by omega))
theorem plM_h {M : Me} (h : HY M) {x9 : Int} : HY (plM M x9) := by
  unfold plM
  (repeat' split) <;> first | exact hy_Pe h | exact hy_Cr h | exact hy_Ti h | exact hy_He h | exact hy_prs h h.n.2 | exact hy_Pa h | exact hy_Da h h.n.2 | exact hy_Ap h h.n.2 | exact h
/-- what is played leaves the texts as they were -/
theorem plM_t {M : Me} (h : HY M) {x9 : Int} : ∀ a j, ¬ (435 ≤ a ∧ a ≤ 437) → a ≠ 430 → plM M x9 a j = M a j := by
  intro a j q0 q
  have h10 := wa_10 h.1
  have h14 := wa_14 h.1
  unfold plM
  (repeat' split)
  · unfold oPeM; split
    · rw [up_ne (by omega), up_ne (by omega), up_ne (by omega), up_ne (by omega)]
    · rfl
  · unfold oCrM; split
    · rw [up_ne (by omega), up_ne (by omega), up_ne (by omega), up_ne (by omega), up_ne (by omega), up_ne (by omega), up_ne (by omega), up_ne (by omega)]
    · rfl
  · unfold oTiM; split
    · rw [up_ne (by omega)]
    · rfl
  · unfold oHeM; split
    · rw [up_ne (by omega)]
    · rfl
  · unfold prsM; split
    · exact ((pnM_o (hy_kp h) h.n.2 (by omega)).2 a j q0 (by omega)).trans (kpA_o (wa_3 h.1) (by omega))
    · rfl
  · unfold oPaM; split
    · exact (bcA_o (wa_12 (hy_kp h).1) (by omega) (by omega)).trans (kpA_o (wa_3 h.1) (by omega))
    · rfl
  · unfold oDaM; split
    · exact ((dmS_w (hy_kp h).1 h.n.2 _ (Nat.le_refl _)).2.1 a j (by omega)).trans (kpA_o (wa_3 h.1) (by omega))
    · rfl
  · unfold oApM; split
    · exact (apS_w h.1 (by have := h.n.2; omega) _ (by assumption)).2.2 a j (by omega)
    · exact (apS_w h.1 (by have := h.n.2; omega) _ (by omega)).2.2 a j (by omega)
  · rfl
/-- the rest of a text played: m clauses from the k-th on -/
def pyI (t : Int) : Nat → Nat → Me → Int × Me
  | 0, _, M => (-1, M)
  | m + 1, k, M => if plV M (705 * t + 1 + 4 * (k : Int)) = 0 then ((k : Int), plM M (705 * t + 1 + 4 * (k : Int))) else pyI t m (k + 1) (plM M (705 * t + 1 + 4 * (k : Int)))
theorem pyI_f {t : Int} {m k : Nat} {M : Me} (h : plV M (705 * t + 1 + 4 * (k : Int)) = 0) : pyI t (m + 1) k M = ((k : Int), plM M (705 * t + 1 + 4 * (k : Int))) := if_pos h
theorem pyI_t {t : Int} {m k : Nat} {M : Me} (h : plV M (705 * t + 1 + 4 * (k : Int)) ≠ 0) : pyI t (m + 1) k M = pyI t m (k + 1) (plM M (705 * t + 1 + 4 * (k : Int))) := if_neg h
def oPyV (M : Me) (t : Int) : Int := if 0 ≤ t ∧ t ≤ M 430 1 - 1 then (pyI t (cnO M t) 0 M).1 else -2
def oPyM (M : Me) (t : Int) : Me := if 0 ≤ t ∧ t ≤ M 430 1 - 1 then (pyI t (cnO M t) 0 M).2 else M
theorem l_played {x y z t : Int} {T : Int → Int} {cn : Nat} (ht : 0 ≤ t ∧ t < 4) (hT : T (705 * t) = (cn : Int)) (hc24 : cn ≤ 24) (hA : ∀ k : Nat, k < cn → T (705 * t + 1 + 4 * (k : Int)) = 10 → 0 ≤ T (705 * t + 1 + 4 * (k : Int) + 1)) : ∀ (m k : Nat) (M : Me), m + k = cn → HY M → M 432 = T → V kX11_played 0 0 10 none (Ex (some (0, (pyI t m k M).1)) (Sf x y z) (pyI t m k M).2) 21 [(1, 429), (0, t), (0, (k : Int))] [] (Sf x y z) M 0 0 := by
  intro m
  induction m with
  | zero =>
    intro k M hk h hM
    obtain rfl : k = cn := by omega
    refine r_iload_n dX11_played_21 rfl ?_
    refine r_aload_n dX11_played_22 rfl (by decide) ?_
    refine r_getr (x := 432) dX11_played_23 flX11_16 sf429 (by decide) (by decide) rfl rfl ?_
    refine r_sipush dX11_played_26 (by decide) (by decide) ?_
    refine r_iload_n dX11_played_29 rfl ?_
    refine r_imul dX11_played_30 (w32_id (by omega)) ?_
    refine r_iald dX11_played_31 sf432 (by decide) (by omega) (by omega) (by decide) ((congrFun hM _).trans hT) ?_
    refine r_icmp_ge (tgt := 61) dX11_played_32 (by decide) (fun h32 => ?_) (fun h32 => by exfalso; omega)
    refine r_iconst dX11_played_61 (by decide) ?_
    refine r_iret dX11_played_62 rfl ?_
    exact ⟨rfl, rfl, rfl⟩
  | succ m ih =>
    intro k M hk h hM
    refine r_iload_n dX11_played_21 rfl ?_
    refine r_aload_n dX11_played_22 rfl (by decide) ?_
    refine r_getr (x := 432) dX11_played_23 flX11_16 sf429 (by decide) (by decide) rfl rfl ?_
    refine r_sipush dX11_played_26 (by decide) (by decide) ?_
    refine r_iload_n dX11_played_29 rfl ?_
    refine r_imul dX11_played_30 (w32_id (by omega)) ?_
    refine r_iald dX11_played_31 sf432 (by decide) (by omega) (by omega) (by decide) ((congrFun hM _).trans hT) ?_
    refine r_icmp_ge (tgt := 61) dX11_played_32 (by decide) (fun h32 => by exfalso; omega) (fun h32 => ?_)
    refine r_aload_n dX11_played_35 rfl (by decide) ?_
    refine r_sipush dX11_played_36 (by decide) (by decide) ?_
    refine r_iload_n dX11_played_39 rfl ?_
    refine r_imul dX11_played_40 (w32_id (by omega)) ?_
    refine r_iconst dX11_played_41 (by decide) ?_
    refine r_iadd dX11_played_42 (w32_id (by omega)) ?_
    refine r_iconst dX11_played_43 (by decide) ?_
    refine r_iload_n dX11_played_44 rfl ?_
    refine r_imul dX11_played_45 (w32_id (by omega)) ?_
    refine r_iadd dX11_played_46 (w32_id (by omega)) ?_
    refine r_cv1 dX11_played_47 clX11_378 sf429 (by decide) (by decide) rfl (by first | decide | omega) (Nat.le_of_ble_eq_true rfl) ((m_isPlayed h (by omega) (by rw [hM]; exact hA k (by omega)))) ⟨Nat.zero_le _, Nat.zero_le _⟩ (fun _ => ?_)
    refine r_if_ne (tgt := 55) dX11_played_50 (by decide) (fun h50 => ?_) (fun h50 => ?_)
    · refine r_iinc dX11_played_55 rfl rfl (by decide) (w32_id (by omega)) st2 ?_
      refine r_goto (tgt := 21) dX11_played_58 (by decide) ?_
      rw [pyI_t (by assumption)]
      exact ih (k + 1) _ (by omega) (plM_h h) ((funext (fun j => plM_t h 432 j (by omega) (by decide))).trans hM)
    · refine r_iload_n dX11_played_53 rfl ?_
      refine r_iret dX11_played_54 rfl ?_
      rw [pyI_f (by assumption)]
      exact ⟨rfl, rfl, rfl⟩
theorem m_played {x y z : Int} {M : Me} (h : HY M) {t : Int} : Con kX11_played 10 0 0 [(1, 429), (0, t)] (Sf x y z) M (Ex (some (0, oPyV M t)) (Sf x y z) (oPyM M t)) := by
  refine Con.ofV (al := [(1, 429), (0, t), (9, 0)]) 1 (by decide) (Nat.le_of_ble_eq_true rfl) rfl ?_
  have h1 := wa_1 h.1
  refine r_iload_n dX11_played_0 rfl ?_
  refine r_iconst dX11_played_1 (by decide) ?_
  refine r_aload_n dX11_played_2 rfl (by decide) ?_
  refine r_getr (x := 430) dX11_played_3 flX11_7 sf429 (by decide) (by decide) rfl rfl ?_
  refine r_iconst dX11_played_6 (by decide) ?_
  refine r_iald dX11_played_7 sf430 (by decide) (by omega) (by omega) (by decide) rfl ?_
  refine r_iconst dX11_played_8 (by decide) ?_
  refine r_isub dX11_played_9 (w32_id (by omega)) ?_
  refine r_cs3 dX11_played_10 clX11_62 (by first | decide | omega) (Nat.le_of_ble_eq_true rfl) (c_isIn) ⟨Nat.zero_le _, Nat.zero_le _⟩ (fun _ => ?_)
  refine r_if_ne (tgt := 19) dX11_played_13 (by decide) (fun h13 => ?_) (fun h13 => ?_)
  · try have h13 := bi_1.mp h13
    refine r_iconst dX11_played_19 (by decide) ?_
    refine r_istore_n dX11_played_20 rfl (by decide) st2 ?_
    have hq := h.2.2 t (by omega) (by omega)
    have hcn : M 432 (705 * t) = (cnO M t : Int) := (Int.toNat_of_nonneg hq.1.1).symm
    have h24 : cnO M t ≤ 24 := by show (M 432 (705 * t)).toNat ≤ 24; omega
    rw [show oPyV M t = (pyI t (cnO M t) 0 M).1 from if_pos (by omega), show oPyM M t = (pyI t (cnO M t) 0 M).2 from if_pos (by omega)]
    exact l_played (by omega) hcn h24 (fun k hk e => by have := (hq.2 k (by omega)).2.2 e; omega) (cnO M t) 0 M (by omega) h rfl
  · try have h13 := bi_0.mp h13
    refine r_bipush dX11_played_16 (by decide) (by decide) ?_
    refine r_iret dX11_played_18 rfl ?_
    exact ⟨by rw [show oPyV M t = -2 from if_neg (by omega)], rfl, by rw [show oPyM M t = M from if_neg (by omega)]⟩
