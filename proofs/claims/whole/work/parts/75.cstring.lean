theorem fl_CS : Cond.fieldLink RJ0 38 "java/lang/String" "COMPACT_STRINGS" "Z" ∈ gw := (tJ3 46 rfl rfl)
theorem fl_SF : Cond.fieldLink RJ0 1053 "jdk/internal/util/Preconditions" "SIOOBE_FORMATTER" "Ljava/util/function/BiFunction;" ∈ gw := (tJ3 62 rfl rfl)
theorem fl_VA : Cond.fieldLink RJ0 9 "java/lang/String" "value" "[B" ∈ gw := (tJ8 73 rfl rfl)
theorem fl_CO : Cond.fieldLink RJ0 15 "java/lang/String" "coder" "B" ∈ gw := (tJ8 74 rfl rfl)
/-- the i-th byte of WORDS -/
def wdC (i : Int) : Int := (bWORDS.getD i.toNat 0).toInt
section STR
variable {k k' : MI} {c1 c2 dd d' e1 e2 : Nat} {xs : Option (List Int)} {Q Q' : Option AV → Sh → Me → Prop} {pc index np : Nat} {al st as rest : List AV} {S S' : Sh} {M M' : Me} {n1 n2 : Nat} {x y : Int}
theorem r_ldcS (d : decode k.2.1 pc = .ok (.ldc 146, 2)) (hk : k.1.cls = RX4) (kk : V k c1 c2 dd xs Q (pc + 2) al ((3, 1) :: st) S M n1 n2) : V k c1 c2 dd xs Q pc al st S M n1 n2 := by
  intro p l e R s m args below meth c b κ D sc Tg H locs ls Cc F hn12 hW hL ho hS
  obtain ⟨⟨hx, hb, hml, hown, hnm, hlk⟩, hts, hR, hb0, hK, hN, hSt, hSc⟩ := id Cc
  exact va_ldcS hx hb (own := k.1.cls) hown (by rw [hk]; exact hSt.1) d (kk p l e R s m args below meth c b κ D sc Tg H locs ls Cc F hn12 hW hL ⟨ho.1, okL_cons.mpr ⟨okA_s, ho.2⟩⟩ hS)
theorem r_sval (d : decode k.2.1 pc = .ok (.getfield index, 3)) (fl : Cond.fieldLink k.1.cls index "java/lang/String" "value" "[B" ∈ gw) (kk : V k c1 c2 dd xs Q (pc + 3) al ((3, 2) :: st) S M n1 n2) : V k c1 c2 dd xs Q pc al ((3, 1) :: st) S M n1 n2 := by
  intro p l e R s m args below meth c b κ D sc Tg H locs ls Cc F hn12 hW hL ho hS
  obtain ⟨⟨hx, hb, hml, hown, hnm, hlk⟩, hts, hR, hb0, hK, hN, hSt, hSc⟩ := id Cc
  exact vk_getf hx hb (hSt.2.1.1 0 (by decide)).2.2.1 hS hown (hts _ fl) (fun x h => h) d (kk p l e R s m args below meth c b κ D sc Tg H locs ls Cc F hn12 hW hL ⟨ho.1, okL_cons.mpr ⟨okA_s, (okL_cons.mp ho.2).2⟩⟩ hS)
theorem r_scod (d : decode k.2.1 pc = .ok (.getfield index, 3)) (fl : Cond.fieldLink k.1.cls index "java/lang/String" "coder" "B" ∈ gw) (kk : V k c1 c2 dd xs Q (pc + 3) al ((0, 0) :: st) S M n1 n2) : V k c1 c2 dd xs Q pc al ((3, 1) :: st) S M n1 n2 := by
  intro p l e R s m args below meth c b κ D sc Tg H locs ls Cc F hn12 hW hL ho hS
  obtain ⟨⟨hx, hb, hml, hown, hnm, hlk⟩, hts, hR, hb0, hK, hN, hSt, hSc⟩ := id Cc
  exact vk_getf hx hb (hSt.2.1.1 0 (by decide)).2.1 hS hown (hts _ fl) (fun x h => h) d (kk p l e R s m args below meth c b κ D sc Tg H locs ls Cc F hn12 hW hL ⟨ho.1, okL_cons.mpr ⟨okA_i (by decide), (okL_cons.mp ho.2).2⟩⟩ hS)
theorem r_gcs (d : decode k.2.1 pc = .ok (.getstatic index, 3)) (fl : Cond.fieldLink k.1.cls index "java/lang/String" "COMPACT_STRINGS" "Z" ∈ gw) (kk : V k c1 c2 dd xs Q (pc + 3) al ((0, 1) :: st) S M n1 n2) : V k c1 c2 dd xs Q pc al st S M n1 n2 := by
  intro p l e R s m args below meth c b κ D sc Tg H locs ls Cc F hn12 hW hL ho hS
  obtain ⟨⟨hx, hb, hml, hown, hnm, hlk⟩, hts, hR, hb0, hK, hN, hSt, hSc⟩ := id Cc
  exact va_gets hx hb hSt.2.2.1 hS hown (hts _ fl) (fun x h => h) d (kk p l e R s m args below meth c b κ D sc Tg H locs ls Cc F hn12 hW hL ⟨ho.1, okL_cons.mpr ⟨okA_i (by decide), ho.2⟩⟩ hS)
theorem r_blen (d : decode k.2.1 pc = .ok (.arraylength, 1)) (kk : V k c1 c2 dd xs Q (pc + 1) al ((0, 150) :: st) S M n1 n2) : V k c1 c2 dd xs Q pc al ((3, 2) :: st) S M n1 n2 := by
  intro p l e R s m args below meth c b κ D sc Tg H locs ls Cc F hn12 hW hL ho hS
  obtain ⟨⟨hx, hb, hml, hown, hnm, hlk⟩, hts, hR, hb0, hK, hN, hSt, hSc⟩ := id Cc
  exact va_tlen hx hb (hSt.2.1.1 0 (by decide)).2.2.2 hS (v := Int32.ofInt 150) rfl d (kk p l e R s m args below meth c b κ D sc Tg H locs ls Cc F hn12 hW hL ⟨ho.1, okL_cons.mpr ⟨okA_i (by decide), (okL_cons.mp ho.2).2⟩⟩ hS)
theorem r_byte (d : decode k.2.1 pc = .ok (.baload, 1)) (hy : 0 ≤ y ∧ y < 150) (kk : V k c1 c2 dd xs Q (pc + 1) al ((0, wdC y) :: st) S M n1 n2) : V k c1 c2 dd xs Q pc al ((0, y) :: (3, 2) :: st) S M n1 n2 := by
  generalize hw : wdC y = w at kk
  intro p l e R s m args below meth c b κ D sc Tg H locs ls Cc F hn12 hW hL ho hS
  obtain ⟨⟨hx, hb, hml, hown, hnm, hlk⟩, hts, hR, hb0, hK, hN, hSt, hSc⟩ := id Cc
  refine va_tb (i := Int32.ofInt y) (v := .int (Int32.ofInt w)) hx hb (hSt.2.1.1 0 (by decide)).2.2.2 hS (oI_vin (n := 150) hy.1 (by omega) (Nat.le_of_ble_eq_true rfl)) ?_ d (kk p l e R s m args below meth c b κ D sc Tg H locs ls Cc F hn12 hW hL ⟨ho.1, okL_cons.mpr ⟨okA_i (by rw [← hw]; exact oI_in _), (ok2 ho.2).2.2⟩⟩ hS)
  rw [oI_clamp hy.1 (by omega)]
  have e9 : ∀ (B : List Int32) (k : Nat), ([B].getD 0 []).getD k 0 = Int32.ofInt ((B.getD k 0).toInt) := fun B k => (Int32.ofInt_toInt _).symm
  exact congrArg Value.int ((e9 bWORDS y.toNat).trans (congrArg Int32.ofInt hw))
theorem i2c_a : ∀ n : Nat, n < 256 → ((Int32.ofInt (n : Int)).toUInt32 % 65536).toInt32 = Int32.ofInt (n : Int) := by decide +kernel
theorem r_i2c (d : decode k.2.1 pc = .ok (.i2c, 1)) (hx0 : 0 ≤ x ∧ x < 256) (kk : V k c1 c2 dd xs Q (pc + 1) al ((0, x) :: st) S M n1 n2) : V k c1 c2 dd xs Q pc al ((0, x) :: st) S M n1 n2 := by
  intro p l e R s m args below meth c b κ D sc Tg H locs ls Cc F hn12 hW hL ho hS
  obtain ⟨⟨hx, hb, hml, hown, hnm, hlk⟩, hts, hR, hb0, hK, hN, hSt, hSc⟩ := id Cc
  obtain ⟨n, rfl⟩ := Int.eq_ofNat_of_zero_le hx0.1
  exact lv_i2c (x := Int32.ofInt (n : Int)) (v := Int32.ofInt (n : Int)) (rest := st.map (cv b sc)) hx hb d (i2c_a n (by omega)) (kk p l e R s m args below meth c b κ D sc Tg H locs ls Cc F hn12 hW hL ho hS)
theorem cv_sc {b t : Nat} {sc : Nat → Nat} {v : AV} (h : v.1 ≠ 3) : cv b (fun j => if j = 7 then t else sc j) v = cv b sc v := by
  unfold cv
  rw [if_neg h, if_neg h]
theorem r_getQ (d : decode k.2.1 pc = .ok (.getstatic index, 3)) (fl : Cond.fieldLink k.1.cls index "jdk/internal/util/Preconditions" "SIOOBE_FORMATTER" "Ljava/util/function/BiFunction;" ∈ gw) (hr : k.2.2.2 = none) (hal : ∀ v, v ∈ al → v.1 ≠ 3) (hst : ∀ v, v ∈ st → v.1 ≠ 3) (kk : ∀ v : AV, v = (1, -1) ∨ v = (3, 7) → V k c1 c2 dd none Q (pc + 3) al (v :: st) S M n1 n2) : V k c1 c2 dd none Q pc al st S M n1 n2 := by
  intro p l e R s m args below meth c b κ D sc Tg H locs ls Cc F hn12 hW hL ho hS
  obtain ⟨⟨hx, hb, hml, hown, hnm, hlk⟩, hts, hR, hb0, hK, hN, hSt, hSc⟩ := id Cc
  rcases hSt.2.2.2 with hZ | ⟨t, hZ⟩
  · exact va_gets hx hb hZ hS hown (hts _ fl) (fun x h => h) d (kk (1, -1) (Or.inl rfl) p l e R s m args below meth c b κ D sc Tg H locs ls Cc F hn12 hW hL ⟨ho.1, okL_cons.mpr ⟨okA_r, ho.2⟩⟩ hS)
  · refine va_gets hx hb hZ hS hown (hts _ fl) (fun x h => h) d (W.mv ?_ (kk (3, 7) (Or.inr rfl) p l e R s m args below meth c b κ D (fun j => if j = 7 then t else sc j) Tg H locs ls ?_ ?_ hn12 hW ?_ ⟨ho.1, okL_cons.mpr ⟨okA_s, ho.2⟩⟩ hS))
    · rw [List.map_cons]
      congr 1
      exact (List.map_congr_left (fun v hv => cv_sc (hst v hv))).symm
    · exact ⟨⟨hx, hb, hml, hown, hnm, hlk⟩, hts, hR, hb0, hK, hN, hSt, fun l h => by cases h⟩
    · intro v S2 M2 H2 locs2 n12 n22 ls2 pc2 a1 a2 a3 a4 a5 a6 a7
      rw [hr] at a6
      have e : v = none := a6
      subst e
      exact F none S2 M2 H2 locs2 n12 n22 ls2 pc2 a1 a2 a3 a4 a5 (by rw [hr]; rfl) a7
    · refine ⟨hL.1, hL.2.1, fun i v hi hv => ?_⟩
      rw [cv_sc (hal v (List.mem_of_getElem? hi))]
      exact hL.2.2 i v hi hv
set_option maxHeartbeats 2000000 in
theorem r_callVS (as rest : List AV) (d : decode k.2.1 pc = .ok (.invokevirtual index, 3)) (hl : CLv k.1.cls index k' np) (hk : k'.1.cls = "java/lang/String") (hd : d' + 1 ≤ dd) (hn : as.length = np) (h8 : cS rest ≤ 8) (hm : n1 + e1 ≤ c1 ∧ n2 + e2 ≤ c2)
    (hM : Con k' d' e1 e2 ((3, 1) :: as) S M Q')
    (kk : ∀ v S' M', Q' v S' M' → okR k'.2.2.2 v → V k c1 c2 dd xs Q (pc + 3) al (v.toList ++ rest) S' M' (n1 + e1) (n2 + e2)) : V k c1 c2 dd xs Q pc al (as.reverse ++ (3, 1) :: rest) S M n1 n2 := by
  intro p l e R s m args below meth c b κ D sc Tg H locs ls Cc F hn12 hW hL ho hS
  obtain ⟨⟨hx, hb, hml, hown, hnm, hlk⟩, hts, ⟨hr1, hr2, hr3, hr4⟩, hb0, hK, hN, hSt, hSc⟩ := id Cc
  obtain ⟨⟨l1, l2, l3, l4, l5, l6, l7⟩, l8, l9⟩ := hl
  have hoa : okL ((3, 1) :: as) := by
    refine okL_cons.mpr ⟨okA_s, fun v hv => ho.2 v (List.mem_append_left _ (List.mem_reverse.mpr hv))⟩
  have cw := cwV (R := R) (s := s) (args := args) (own := k.1.cls) (index := index) (y := k'.1) (C := k'.1.cls) (bytes := k'.2.1) (maxL := k'.2.2.1) (ret := k'.2.2.2) (ws := gwOf k') (ws' := gw) (rm := { frames := d', cells := e1, slots := e2, locals := 70 * d' }) (mc := e1) (ms := e2) np hts
    (fun w hw => by
      unfold wsV at hw
      rcases List.mem_append.mp hw with h | h
      · simp only [List.mem_cons, List.not_mem_nil, or_false] at h
        rcases h with rfl | rfl | rfl | rfl
        · exact gw_good _ l1
        · exact gw_good _ l8
        · exact gw_good _ l9
        · exact gw_good _ l2
      · exact gwOf_good l3 w h) rfl rfl rfl ⟨rfl, l5, l6, l7⟩ ⟨by show d' + 1 ≤ R.frames; omega, by show 8 + (k'.2.2.1 + 11) + 70 * d' ≤ R.locals; omega⟩
  have hM1 := hM l b κ D sc hoa
  have hrv : ∃ cell : Cell, H[sc 1]? = some cell ∧ cell.vm.isStatics = false ∧ s.vm.findClass k'.1.cls = some cell.cls := by
    rw [hk]; exact vk_recv (i := 0) hSt.2.1 (by decide) hS
  have hrun := va_runV (As := as.map (cv b sc)) (rest := rest.map (cv b sc)) (b := sc 1) (H := H) (locs := locs) (cells := n1) (slots := n2) (m := m) (g := F0 m pc ls ((as.reverse ++ (3, 1) :: rest).map (cv b sc))) (p := p) (e := e) (below := below) (meth := meth) ⟨hx, hb, hml, hown, hts⟩ hM1 cw
    ⟨pc_blind, hrv, pc_at (av := ((3, 1) :: as).map (cv b sc)) hb0 hW hK hN hSt hS⟩ rfl (by rw [List.length_map]; exact hn) hL.1 (by
      show (as.reverse ++ (3, 1) :: rest).map (cv b sc) = _
      rw [List.map_append, List.map_cons, List.map_reverse]; rfl) (lv_room (by rw [cS_eq]; exact h8)) d ⟨by omega, by omega⟩
  refine run_go hrun hS (fun st v t _ h => h.2) ?_
  rintro v0 st t0 H1 locs1 ⟨⟨v, S', M', e9, q1, q2, q3⟩, -⟩ hH1 hS1
  have e9 := Outcome.returned.inj e9
  subst e9
  rw [hH1] at q3
  have := kk v S' M' q1 q2 p l e R s m args below meth c b κ D sc Tg H1 locs1 ls Cc F ⟨hm.1, hm.2⟩ q3 hL ⟨ho.1, okL_app (okR_okL q2) (fun w hw => ho.2 w (List.mem_append_right _ (List.mem_cons_of_mem _ hw)))⟩ hS1
  refine W.eq ?_ this
  congr 1
  cases v <;> rfl
theorem r_cvS0 {w : AV} (d : decode k.2.1 pc = .ok (.invokevirtual index, 3)) (hl : CLv k.1.cls index k' 0) (hk : k'.1.cls = "java/lang/String") (hd : d' + 1 ≤ dd) (h8 : cS st ≤ 8) (hM : Con k' d' 0 0 [(3, 1)] S M (Ex (some w) S' M')) (hm : n1 ≤ c1 ∧ n2 ≤ c2) (kk : okA w → V k c1 c2 dd xs Q (pc + 3) al (w :: st) S' M' n1 n2) : V k c1 c2 dd xs Q pc al ((3, 1) :: st) S M n1 n2 :=
  r_callVS [] st d hl hk hd rfl h8 hm hM (fun v S9 M9 h hok => by obtain ⟨rfl, rfl, rfl⟩ := h; exact kk (okR_okA hok))
theorem r_cvS1 {v1 w : AV} (d : decode k.2.1 pc = .ok (.invokevirtual index, 3)) (hl : CLv k.1.cls index k' 1) (hk : k'.1.cls = "java/lang/String") (hd : d' + 1 ≤ dd) (h8 : cS st ≤ 8) (hM : Con k' d' 0 0 [(3, 1), v1] S M (Ex (some w) S' M')) (hm : n1 ≤ c1 ∧ n2 ≤ c2) (kk : okA w → V k c1 c2 dd xs Q (pc + 3) al (w :: st) S' M' n1 n2) : V k c1 c2 dd xs Q pc al (v1 :: (3, 1) :: st) S M n1 n2 :=
  r_callVS [v1] st d hl hk hd rfl h8 hm hM (fun v S9 M9 h hok => by obtain ⟨rfl, rfl, rfl⟩ := h; exact kk (okR_okA hok))
end STR
theorem c_coder {S : Sh} {M : Me} : Con kJ0_coder_7d493 0 0 0 [(3, 1)] S M (Ex (some (0, 0)) S M) := by
  refine Con.ofV (al := [(3, 1)]) 0 (by decide) (Nat.le_of_ble_eq_true rfl) rfl ?_
  refine r_gcs dJ0_coder_7d493_0 fl_CS ?_
  refine r_if_eq (tgt := 13) dJ0_coder_7d493_3 (by decide) (fun h => absurd h (by decide)) (fun _ => ?_)
  refine r_sload_n dJ0_coder_7d493_6 rfl ?_
  refine r_scod dJ0_coder_7d493_7 fl_CO ?_
  refine r_goto (tgt := 14) dJ0_coder_7d493_10 (by decide) ?_
  exact r_ret dJ0_coder_7d493_14 ⟨0, rfl, by decide, by decide⟩ ⟨rfl, rfl, rfl⟩
theorem c_isLatin1 {S : Sh} {M : Me} : Con kJ0_isLatin1_aae02 0 0 0 [(3, 1)] S M (Ex (some (0, 1)) S M) := by
  refine Con.ofV (al := [(3, 1)]) 0 (by decide) (Nat.le_of_ble_eq_true rfl) rfl ?_
  refine r_gcs dJ0_isLatin1_aae02_0 fl_CS ?_
  refine r_if_eq (tgt := 17) dJ0_isLatin1_aae02_3 (by decide) (fun h => absurd h (by decide)) (fun _ => ?_)
  refine r_sload_n dJ0_isLatin1_aae02_6 rfl ?_
  refine r_scod dJ0_isLatin1_aae02_7 fl_CO ?_
  refine r_if_ne (tgt := 17) dJ0_isLatin1_aae02_10 (by decide) (fun h => absurd rfl h) (fun _ => ?_)
  refine r_iconst dJ0_isLatin1_aae02_13 (by decide) ?_
  refine r_goto (tgt := 18) dJ0_isLatin1_aae02_14 (by decide) ?_
  exact r_ret dJ0_isLatin1_aae02_18 ⟨1, rfl, by decide, by decide⟩ ⟨rfl, rfl, rfl⟩
theorem c_length {S : Sh} {M : Me} : Con kJ0_length_8abf5 1 0 0 [(3, 1)] S M (Ex (some (0, 150)) S M) := by
  refine Con.ofV (al := [(3, 1)]) 0 (by decide) (Nat.le_of_ble_eq_true rfl) rfl ?_
  refine r_sload_n dJ0_length_8abf5_0 rfl ?_
  refine r_sval dJ0_length_8abf5_1 fl_VA ?_
  refine r_blen dJ0_length_8abf5_4 ?_
  refine r_sload_n dJ0_length_8abf5_5 rfl ?_
  refine r_cvS0 dJ0_length_8abf5_6 clJ0_335 rfl (by decide) (Nat.le_of_ble_eq_true rfl) c_coder ⟨Nat.zero_le _, Nat.zero_le _⟩ (fun _ => ?_)
  refine r_ishr dJ0_length_8abf5_9 (show shr32 150 0 = 150 by decide +kernel) ?_
  exact r_ret dJ0_length_8abf5_10 ⟨150, rfl, by decide, by decide⟩ ⟨rfl, rfl, rfl⟩
theorem c_check3 {S : Sh} {M : Me} {i n : Int} {v : AV} (hi : 0 ≤ i ∧ i < n) (hv : v = (1, -1) ∨ v = (3, 7)) : Con kJ3_checkIndex_8e157 0 0 0 [(0, i), (0, n), v] S M (Ex (some (0, i)) S M) := by
  rcases hv with rfl | rfl
  · refine Con.ofV (al := [(0, i), (0, n), (1, -1)]) 0 (by decide) (Nat.le_of_ble_eq_true rfl) rfl ?_
    refine r_iload_n dJ3_checkIndex_8e157_0 rfl ?_
    refine r_if_lt (tgt := 9) dJ3_checkIndex_8e157_1 (by decide) (fun h => by exfalso; omega) (fun _ => ?_)
    refine r_iload_n dJ3_checkIndex_8e157_4 rfl ?_
    refine r_iload_n dJ3_checkIndex_8e157_5 rfl ?_
    refine r_icmp_lt (tgt := 16) dJ3_checkIndex_8e157_6 (by decide) (fun _ => ?_) (fun h => by exfalso; omega)
    refine r_iload_n dJ3_checkIndex_8e157_16 rfl ?_
    refine r_iret dJ3_checkIndex_8e157_17 rfl ?_
    exact ⟨rfl, rfl, rfl⟩
  · refine Con.ofV (al := [(0, i), (0, n), (3, 7)]) 0 (by decide) (Nat.le_of_ble_eq_true rfl) rfl ?_
    refine r_iload_n dJ3_checkIndex_8e157_0 rfl ?_
    refine r_if_lt (tgt := 9) dJ3_checkIndex_8e157_1 (by decide) (fun h => by exfalso; omega) (fun _ => ?_)
    refine r_iload_n dJ3_checkIndex_8e157_4 rfl ?_
    refine r_iload_n dJ3_checkIndex_8e157_5 rfl ?_
    refine r_icmp_lt (tgt := 16) dJ3_checkIndex_8e157_6 (by decide) (fun _ => ?_) (fun h => by exfalso; omega)
    refine r_iload_n dJ3_checkIndex_8e157_16 rfl ?_
    refine r_iret dJ3_checkIndex_8e157_17 rfl ?_
    exact ⟨rfl, rfl, rfl⟩
theorem c_check {S : Sh} {M : Me} {i n : Int} (hi : 0 ≤ i ∧ i < n) : Con kJ0_checkIndex_df160 1 0 0 [(0, i), (0, n)] S M (Ex none S M) := by
  refine Con.ofV (al := [(0, i), (0, n)]) 0 (by decide) (Nat.le_of_ble_eq_true rfl) rfl ?_
  refine r_iload_n dJ0_checkIndex_df160_0 rfl ?_
  refine r_iload_n dJ0_checkIndex_df160_1 rfl ?_
  refine r_getQ dJ0_checkIndex_df160_2 fl_SF rfl (fun v hv => by rcases List.mem_cons.mp hv with rfl | hv; exact (show (0 : Nat) ≠ 3 by decide); rcases List.mem_cons.mp hv with rfl | hv; exact (show (0 : Nat) ≠ 3 by decide); cases hv) (fun v hv => by rcases List.mem_cons.mp hv with rfl | hv; exact (show (0 : Nat) ≠ 3 by decide); rcases List.mem_cons.mp hv with rfl | hv; exact (show (0 : Nat) ≠ 3 by decide); cases hv) (fun v hv => ?_)
  refine r_cs3 dJ0_checkIndex_df160_5 clJ0_1059 (by decide) (Nat.le_of_ble_eq_true rfl) (c_check3 hi hv) ⟨Nat.zero_le _, Nat.zero_le _⟩ (fun _ => ?_)
  refine r_pop dJ0_checkIndex_df160_8 (Nat.ne_of_beq_eq_false rfl) ?_
  refine r_ret0 dJ0_checkIndex_df160_9 rfl ?_
  exact ⟨rfl, rfl, rfl⟩
def chC (i : Int) : Int := and32 (wdC i) 255
theorem chC_b {i : Int} : 0 ≤ chC i ∧ chC i < 256 := by
  have := and32_nn (x := wdC i) (t := 255) (by decide)
  unfold chC
  omega
theorem c_charAt1 {S : Sh} {M : Me} {i : Int} (hi : 0 ≤ i ∧ i < 150) : Con kJ1_charAt_3b067 2 0 0 [(3, 2), (0, i)] S M (Ex (some (0, chC i)) S M) := by
  have hb := chC_b (i := i)
  refine Con.ofV (al := [(3, 2), (0, i)]) 0 (by decide) (Nat.le_of_ble_eq_true rfl) rfl ?_
  refine r_iload_n dJ1_charAt_3b067_0 rfl ?_
  refine r_sload_n dJ1_charAt_3b067_1 rfl ?_
  refine r_blen dJ1_charAt_3b067_2 ?_
  refine r_cu2 dJ1_charAt_3b067_3 clJ1_9 (by decide) (Nat.le_of_ble_eq_true rfl) (c_check hi) ⟨Nat.zero_le _, Nat.zero_le _⟩ ?_
  refine r_sload_n dJ1_charAt_3b067_6 rfl ?_
  refine r_iload_n dJ1_charAt_3b067_7 rfl ?_
  refine r_byte dJ1_charAt_3b067_8 hi ?_
  refine r_sipush dJ1_charAt_3b067_9 (by decide) (by decide) ?_
  refine r_iand dJ1_charAt_3b067_12 (show and32 (wdC i) 255 = chC i from rfl) ?_
  refine r_i2c dJ1_charAt_3b067_13 hb ?_
  exact r_ret dJ1_charAt_3b067_14 ⟨chC i, rfl, by omega, by omega⟩ ⟨rfl, rfl, rfl⟩
theorem c_charAt {S : Sh} {M : Me} {i : Int} (hi : 0 ≤ i ∧ i < 150) : Con kJ0_charAt_5068e 3 0 0 [(3, 1), (0, i)] S M (Ex (some (0, chC i)) S M) := by
  have hb := chC_b (i := i)
  refine Con.ofV (al := [(3, 1), (0, i)]) 0 (by decide) (Nat.le_of_ble_eq_true rfl) rfl ?_
  refine r_sload_n dJ0_charAt_5068e_0 rfl ?_
  refine r_cvS0 dJ0_charAt_5068e_1 clJ0_492 rfl (by decide) (Nat.le_of_ble_eq_true rfl) c_isLatin1 ⟨Nat.zero_le _, Nat.zero_le _⟩ (fun _ => ?_)
  refine r_if_eq (tgt := 16) dJ0_charAt_5068e_4 (by decide) (fun h => absurd h (by decide)) (fun _ => ?_)
  refine r_sload_n dJ0_charAt_5068e_7 rfl ?_
  refine r_sval dJ0_charAt_5068e_8 fl_VA ?_
  refine r_iload_n dJ0_charAt_5068e_11 rfl ?_
  refine r_cs2 dJ0_charAt_5068e_12 clJ0_495 (by decide) (Nat.le_of_ble_eq_true rfl) (c_charAt1 hi) ⟨Nat.zero_le _, Nat.zero_le _⟩ (fun _ => ?_)
  exact r_ret dJ0_charAt_5068e_15 ⟨chC i, rfl, by omega, by omega⟩ ⟨rfl, rfl, rfl⟩
