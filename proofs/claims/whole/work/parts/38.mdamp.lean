theorem kpA_o {M : Me} (h3 : 0 ≤ M 430 3 ∧ M 430 3 ≤ 30) {a j : Int} (h : ¬ (a = 430 ∧ (j = 3 ∨ (192 ≤ j ∧ j < 2112)))) : kpA M a j = M a j := by
  unfold kpA
  split
  · exact rd_ne (by omega) (rd_pk (by omega) (rd_ne (by omega) (rd_out (by omega) rfl)))
  · exact rd_ne (by omega) (rd_pk (by omega) rfl)
theorem wrA_o {M : Me} (h12 : 0 ≤ M 430 12 ∧ M 430 12 ≤ 30) {c w a j : Int} (h : ¬ (a = 430 ∧ (j = 12 ∨ (2112 ≤ j ∧ j < 2142)))) : wrA M c w a j = M a j := by
  unfold wrA
  split
  · exact rd_ne (by omega) (rd_ne (by omega) (rd_ne (by omega) (rd_out (by omega) rfl)))
  · exact rd_ne (by omega) (rd_ne (by omega) rfl)
theorem bcA_o {M : Me} (h12 : 0 ≤ M 430 12 ∧ M 430 12 ≤ 30) {c t d a j : Int} (hc : 0 ≤ c ∧ c < 12) (h : ¬ (a = 430 ∧ (j = 12 ∨ (2112 ≤ j ∧ j < 2142) ∨ j = 15 + 7 * c + 1 ∨ j = 15 + 7 * c + 0))) : bcA M c t d a j = M a j := by
  unfold bcA
  have e : up (up M 430 (15 + 7 * c + 1) t) 430 (15 + 7 * c + 0) d 430 12 = M 430 12 := rd_ne (by omega) (rd_ne (by omega) rfl)
  exact (wrA_o (by rw [e]; exact h12) (by omega)).trans (rd_ne (by omega) (rd_ne (by omega) rfl))
theorem psA_o {M : Me} {n : Int} (hn : n ≤ 12) {a j : Int} (h : ¬ (a = 430 ∧ (j = 10 ∨ (15 ≤ j ∧ j < 99 ∧ (j - 15) % 7 = 0)))) : psA M n a j = M a j := by
  unfold psA
  refine rd_ne (by omega) ?_
  split
  · exact dp_o (by omega)
  · rfl
theorem psA_10 {M : Me} {n : Int} : psA M n 430 10 = M 430 10 + 1 := up_eq ⟨rfl, rfl⟩
abbrev cbk (M : Me) (n : Nat) (c : Int) : Prop := M 430 (15 + 7 * c + 1) = 1 ∧ and32 (M 430 (15 + 7 * c + 6)) (xor32 (bset (fun c : Int => M 430 (15 + 7 * c + 1) = 0) (fun c => c) n) (-1)) = 0
/-- the damp: the reference's memory, and how many came back, behind i creases -/
def dmS (M : Me) (n : Nat) (k : Int) : Nat → Me × Int
  | 0 => (M, 0)
  | i + 1 => if (dmS M n k i).2 < k ∧ cbk (dmS M n k i).1 n i then (bcA (dmS M n k i).1 i 0 1, (dmS M n k i).2 + 1) else dmS M n k i
theorem dmS_t {M : Me} {n : Nat} {k : Int} {i : Nat} (h : (dmS M n k i).2 < k ∧ cbk (dmS M n k i).1 n i) : dmS M n k (i + 1) = (bcA (dmS M n k i).1 i 0 1, (dmS M n k i).2 + 1) := if_pos h
theorem dmS_f {M : Me} {n : Nat} {k : Int} {i : Nat} (h : ¬ ((dmS M n k i).2 < k ∧ cbk (dmS M n k i).1 n i)) : dmS M n k (i + 1) = dmS M n k i := if_neg h
theorem dmS_e {M : Me} {n : Nat} {k : Int} {i : Nat} (h : k ≤ (dmS M n k i).2) : ∀ m : Nat, dmS M n k (m + i) = dmS M n k i := by
  intro m
  induction m with
  | zero => rw [Nat.zero_add]
  | succ m ih => rw [show m + 1 + i = (m + i) + 1 by omega, dmS_f (fun q => by rw [ih] at q; omega), ih]
theorem dmS_w {M : Me} (h : WA M) {n : Nat} (hn12 : n ≤ 12) {k : Int} : ∀ i : Nat, i ≤ n → WA (dmS M n k i).1 ∧ (∀ a j, ¬ (a = 430 ∧ (j = 12 ∨ (2112 ≤ j ∧ j < 2142) ∨ (15 ≤ j ∧ j < 99 ∧ (j - 15) % 7 < 2))) → (dmS M n k i).1 a j = M a j) ∧ 0 ≤ (dmS M n k i).2 ∧ (dmS M n k i).2 ≤ i := by
  intro i
  induction i with
  | zero => intro _; exact ⟨h, fun _ _ _ => rfl, Int.le_refl _, (show (0 : Int) ≤ ((0 : Nat) : Int) by omega)⟩
  | succ i ih =>
    intro hi
    have h1 := ih (by omega)
    by_cases q : (dmS M n k i).2 < k ∧ cbk (dmS M n k i).1 n i
    · rw [dmS_t q]
      exact ⟨wa_bc h1.1 (by omega) (by decide) (by decide), fun a j q2 => (bcA_o (wa_12 h1.1) (by omega) (by omega)).trans (h1.2.1 a j q2), by show 0 ≤ _ + 1; omega, by show _ + 1 ≤ _; omega⟩
    · rw [dmS_f q]
      exact ⟨h1.1, h1.2.1, h1.2.2.1, by omega⟩
theorem l_dampNow {x y z : Int} {M : Me} (hW : WA M) {n : Nat} (hn : M 430 14 = (n : Int)) (hn12 : n ≤ 12) {k : Int} : ∀ (m i : Nat), m + i = n → V kX11_dampNow 0 0 4 none (Ex (some (0, (dmS M n k n).2)) (Sf x y z) (dmS M n k n).1) 4 [(1, 429), (0, k), (0, (dmS M n k i).2), (0, (i : Int))] [] (Sf x y z) (dmS M n k i).1 0 0 := by
  intro m
  induction m with
  | zero =>
    intro i hi
    obtain rfl : i = n := by omega
    have h1 := dmS_w hW hn12 (k := k) i (Nat.le_refl i)
    refine r_iload_n dX11_dampNow_4 rfl ?_
    refine r_aload_n dX11_dampNow_5 rfl (by decide) ?_
    refine r_getr (x := 430) dX11_dampNow_6 flX11_7 sf429 (by decide) (by decide) rfl rfl ?_
    refine r_bipush dX11_dampNow_9 (by decide) (by decide) ?_
    refine r_iald dX11_dampNow_11 sf430 (by decide) (by omega) (by omega) (by decide) ((h1.2.1 430 14 (by omega)).trans hn) ?_
    refine r_icmp_ge (tgt := 47) dX11_dampNow_12 (by decide) (fun h12 => ?_) (fun h12 => by exfalso; omega)
    refine r_iload_n dX11_dampNow_47 rfl ?_
    refine r_iret dX11_dampNow_48 rfl ?_
    exact ⟨rfl, rfl, rfl⟩
  | succ m ih =>
    intro i hi
    have h1 := dmS_w hW hn12 (k := k) i (by omega)
    have h2 : (dmS M n k i).1 430 14 = (n : Int) := (h1.2.1 430 14 (by omega)).trans hn
    refine r_iload_n dX11_dampNow_4 rfl ?_
    refine r_aload_n dX11_dampNow_5 rfl (by decide) ?_
    refine r_getr (x := 430) dX11_dampNow_6 flX11_7 sf429 (by decide) (by decide) rfl rfl ?_
    refine r_bipush dX11_dampNow_9 (by decide) (by decide) ?_
    refine r_iald dX11_dampNow_11 sf430 (by decide) (by omega) (by omega) (by decide) h2 ?_
    refine r_icmp_ge (tgt := 47) dX11_dampNow_12 (by decide) (fun h12 => by exfalso; omega) (fun h12 => ?_)
    refine r_iload_n dX11_dampNow_15 rfl ?_
    refine r_iload_n dX11_dampNow_16 rfl ?_
    refine r_icmp_ge (tgt := 47) dX11_dampNow_17 (by decide) (fun h17 => ?_) (fun h17 => ?_)
    · refine r_iload_n dX11_dampNow_47 rfl ?_
      refine r_iret dX11_dampNow_48 rfl ?_
      have e : dmS M n k n = dmS M n k i := by
        have e2 := dmS_e (M := M) (n := n) (k := k) (i := i) (by omega) (n - i)
        rwa [show n - i + i = n by omega] at e2
      rw [e]; exact ⟨rfl, rfl, rfl⟩
    · refine r_aload_n dX11_dampNow_20 rfl (by decide) ?_
      refine r_iload_n dX11_dampNow_21 rfl ?_
      refine r_cv1 dX11_dampNow_22 clX11_339 sf429 (by decide) (by decide) rfl (by first | decide | omega) (Nat.le_of_ble_eq_true rfl) ((m_canBack (by omega) h2 hn12)) ⟨Nat.zero_le _, Nat.zero_le _⟩ (fun _ => ?_)
      refine r_if_ne (tgt := 31) dX11_dampNow_25 (by decide) (fun h25 => ?_) (fun h25 => ?_)
      · try have h25 := bi_1.mp h25
        refine r_aload_n dX11_dampNow_31 rfl (by decide) ?_
        refine r_iload_n dX11_dampNow_32 rfl ?_
        refine r_iconst dX11_dampNow_33 (by decide) ?_
        refine r_iconst dX11_dampNow_34 (by decide) ?_
        refine r_cw3 dX11_dampNow_35 clX11_330 sf429 (by decide) (by decide) rfl (by first | decide | omega) (Nat.le_of_ble_eq_true rfl) ((m_become (by omega) (by decide) (wa_12 h1.1) (wa_10 h1.1))) ⟨Nat.zero_le _, Nat.zero_le _⟩ ?_
        refine r_iinc dX11_dampNow_38 rfl rfl (by decide) (w32_id (by omega)) st2 ?_
        refine r_iinc dX11_dampNow_41 rfl rfl (by decide) (w32_id (by omega)) st3 ?_
        refine r_goto (tgt := 4) dX11_dampNow_44 (by decide) ?_
        first | exact V.al (by rw [show (dmS M n k (i + 1)) = _ from dmS_t ⟨by omega, by assumption⟩]; rfl) (V.cm rfl (show _ = (dmS M n k (i + 1)).1 by rw [dmS_t ⟨by omega, by assumption⟩]) (ih (i + 1) (by omega))) | exact V.al (by rw [show (dmS M n k (i + 1)) = _ from dmS_f (fun q => absurd q.2 (by assumption))]; rfl) (V.cm rfl (show _ = (dmS M n k (i + 1)).1 by rw [dmS_f (fun q => absurd q.2 (by assumption))]) (ih (i + 1) (by omega)))
      · try have h25 := bi_0.mp h25
        refine r_goto (tgt := 41) dX11_dampNow_28 (by decide) ?_
        refine r_iinc dX11_dampNow_41 rfl rfl (by decide) (w32_id (by omega)) st3 ?_
        refine r_goto (tgt := 4) dX11_dampNow_44 (by decide) ?_
        first | exact V.al (by rw [show (dmS M n k (i + 1)) = _ from dmS_t ⟨by omega, by assumption⟩]; rfl) (V.cm rfl (show _ = (dmS M n k (i + 1)).1 by rw [dmS_t ⟨by omega, by assumption⟩]) (ih (i + 1) (by omega))) | exact V.al (by rw [show (dmS M n k (i + 1)) = _ from dmS_f (fun q => absurd q.2 (by assumption))]; rfl) (V.cm rfl (show _ = (dmS M n k (i + 1)).1 by rw [dmS_f (fun q => absurd q.2 (by assumption))]) (ih (i + 1) (by omega)))
theorem m_dampNow {x y z : Int} {M : Me} (hW : WA M) {n : Nat} (hn : M 430 14 = (n : Int)) (hn12 : n ≤ 12) {k : Int} : Con kX11_dampNow 4 0 0 [(1, 429), (0, k)] (Sf x y z) M (Ex (some (0, (dmS M n k n).2)) (Sf x y z) (dmS M n k n).1) := by
  refine Con.ofV (al := [(1, 429), (0, k), (9, 0), (9, 0)]) 2 (by decide) (Nat.le_of_ble_eq_true rfl) rfl ?_
  refine r_iconst dX11_dampNow_0 (by decide) ?_
  refine r_istore_n dX11_dampNow_1 rfl (by decide) st2 ?_
  refine r_iconst dX11_dampNow_2 (by decide) ?_
  refine r_istore_n dX11_dampNow_3 rfl (by decide) st3 ?_
  exact l_dampNow hW hn hn12 n 0 (by omega)
/-- i hours passed, each kept before -/
def apS (M : Me) (n : Int) : Nat → Me
  | 0 => M
  | i + 1 => psA (kpA (apS M n i)) n
theorem apS_w {M : Me} (h : WA M) {n : Int} (hn : n ≤ 12) : ∀ i : Nat, M 430 10 + i ≤ 9999 → WA (apS M n i) ∧ apS M n i 430 10 = M 430 10 + i ∧ (∀ a j, ¬ (a = 430 ∧ (j = 3 ∨ j = 10 ∨ (192 ≤ j ∧ j < 2112) ∨ (15 ≤ j ∧ j < 99 ∧ (j - 15) % 7 = 0))) → apS M n i a j = M a j) := by
  intro i
  induction i with
  | zero => intro _; exact ⟨h, (show M 430 10 = M 430 10 + ((0 : Nat) : Int) by omega), fun _ _ _ => rfl⟩
  | succ i ih =>
    intro hi
    have h1 := ih (by omega)
    have h2 := wa_kp h1.1
    have h3 : kpA (apS M n i) 430 10 = M 430 10 + i := (kpA_o (wa_3 h1.1) (by omega)).trans h1.2.1
    exact ⟨wa_ps h2 hn (by omega), by show psA _ n 430 10 = _; rw [psA_10, h3]; omega, fun a j q => (psA_o hn (by omega)).trans ((kpA_o (wa_3 h1.1) (by omega)).trans (h1.2.2 a j (by omega)))⟩
theorem l_passed {x y z : Int} {M : Me} (hW : WA M) {n : Nat} (hn : M 430 14 = (n : Int)) (hn12 : n ≤ 12) {k : Nat} : ∀ (m i : Nat), m + i = k → M 430 10 + i ≤ 9999 → V kX11_arePassed 0 0 3 none (fun v9 S9 M9 => S9 = (Sf x y z) ∧ ((M 430 10 + k ≤ 9999) ∧ v9 = some (0, 1) ∧ M9 = apS M n k ∨ (9999 < M 430 10 + k) ∧ v9 = some (0, 0) ∧ M9 = apS M n (9999 - M 430 10).toNat)) 2 [(1, 429), (0, (k : Int)), (0, (i : Int))] [] (Sf x y z) (apS M n i) 0 0 := by
  intro m
  induction m with
  | zero =>
    intro i hi h9
    obtain rfl : i = k := by omega
    refine r_iload_n dX11_arePassed_2 rfl ?_
    refine r_iload_n dX11_arePassed_3 rfl ?_
    refine r_icmp_ge (tgt := 36) dX11_arePassed_4 (by decide) (fun h4 => ?_) (fun h4 => by exfalso; omega)
    refine r_iconst dX11_arePassed_36 (by decide) ?_
    refine r_zret dX11_arePassed_37 rfl (by omega) ?_
    first | exact ⟨rfl, Or.inl ⟨by omega, rfl, rfl⟩⟩ | exact ⟨rfl, Or.inr (⟨by omega, rfl, rfl⟩)⟩
  | succ m ih =>
    intro i hi h9
    have h1 := apS_w hW (n := (n : Int)) (by omega) i h9
    have h10 := wa_10 hW
    have h2 := wa_kp h1.1
    have h3 : kpA (apS M n i) 430 14 = (n : Int) := (kpA_o (wa_3 h1.1) (by omega)).trans ((h1.2.2 430 14 (by omega)).trans hn)
    refine r_iload_n dX11_arePassed_2 rfl ?_
    refine r_iload_n dX11_arePassed_3 rfl ?_
    refine r_icmp_ge (tgt := 36) dX11_arePassed_4 (by decide) (fun h4 => by exfalso; omega) (fun h4 => ?_)
    refine r_aload_n dX11_arePassed_7 rfl (by decide) ?_
    refine r_getr (x := 430) dX11_arePassed_8 flX11_7 sf429 (by decide) (by decide) rfl rfl ?_
    refine r_bipush dX11_arePassed_11 (by decide) (by decide) ?_
    refine r_iald dX11_arePassed_13 sf430 (by decide) (by omega) (by omega) (by decide) h1.2.1 ?_
    refine r_sipush dX11_arePassed_14 (by decide) (by decide) ?_
    refine r_icmp_ne (tgt := 22) dX11_arePassed_17 (by decide) (fun h17 => ?_) (fun h17 => ?_)
    · refine r_aload_n dX11_arePassed_22 rfl (by decide) ?_
      refine r_cw0 dX11_arePassed_23 clX11_342 sf429 (by decide) (by decide) rfl (by first | decide | omega) (Nat.le_of_ble_eq_true rfl) ((m_keep (wa_3 h1.1))) ⟨Nat.zero_le _, Nat.zero_le _⟩ ?_
      refine r_aload_n dX11_arePassed_26 rfl (by decide) ?_
      refine r_cw0 dX11_arePassed_27 clX11_351 sf429 (by decide) (by decide) rfl (by first | decide | omega) (Nat.le_of_ble_eq_true rfl) ((m_pass h3 hn12 (wa_10 h2) (fun c q1 q2 => wc_0 h2 (by omega)))) ⟨Nat.zero_le _, Nat.zero_le _⟩ ?_
      refine r_iinc dX11_arePassed_30 rfl rfl (by decide) (w32_id (by omega)) st2 ?_
      refine r_goto (tgt := 2) dX11_arePassed_33 (by decide) ?_
      exact ih (i + 1) (by omega) (by omega)
    · refine r_iconst dX11_arePassed_20 (by decide) ?_
      refine r_zret dX11_arePassed_21 rfl (by omega) ?_
      exact ⟨rfl, Or.inr ⟨by omega, rfl, by rw [show (9999 - M 430 10).toNat = i by omega]⟩⟩
theorem m_arePassed {x y z : Int} {M : Me} (hW : WA M) {n : Nat} (hn : M 430 14 = (n : Int)) (hn12 : n ≤ 12) {k : Nat} : Con kX11_arePassed 3 0 0 [(1, 429), (0, (k : Int))] (Sf x y z) M (fun v9 S9 M9 => S9 = (Sf x y z) ∧ ((M 430 10 + k ≤ 9999) ∧ v9 = some (0, 1) ∧ M9 = apS M n k ∨ (9999 < M 430 10 + k) ∧ v9 = some (0, 0) ∧ M9 = apS M n (9999 - M 430 10).toNat)) := by
  refine Con.ofV (al := [(1, 429), (0, (k : Int)), (9, 0)]) 1 (by decide) (Nat.le_of_ble_eq_true rfl) rfl ?_
  refine r_iconst dX11_arePassed_0 (by decide) ?_
  refine r_istore_n dX11_arePassed_1 rfl (by decide) st2 ?_
  exact l_passed hW hn hn12 k 0 (by omega) (by have := wa_10 hW; omega)
theorem m_passed1 {x y z : Int} {M : Me} (hW : WA M) {n : Nat} (hn : M 430 14 = (n : Int)) (hn12 : n ≤ 12) {k : Nat} (hk : M 430 10 + k ≤ 9999) : Con kX11_arePassed 3 0 0 [(1, 429), (0, (k : Int))] (Sf x y z) M (Ex (some (0, 1)) (Sf x y z) (apS M n k)) :=
  (m_arePassed hW hn hn12).mono (fun v9 S9 M9 h => by
    obtain ⟨h1, ⟨h2, h3, h4⟩ | ⟨h2, h3, h4⟩⟩ := h
    · exact ⟨h3, h1, h4⟩
    · exact absurd hk (by omega))
theorem m_hour {x y z : Int} {M : Me} (hW : WA M) {n : Nat} (hn : M 430 14 = (n : Int)) (hn12 : n ≤ 12) {k : Int} : Con kX11_hour 4 0 0 [(1, 429), (0, k)] (Sf x y z) M (fun v9 S9 M9 => S9 = (Sf x y z) ∧ (((1 ≤ k ∧ k ≤ 60) ∧ M 430 10 + k ≤ 9999) ∧ v9 = some (0, M 430 10 + k) ∧ M9 = apS M n k.toNat ∨ (¬ ((1 ≤ k ∧ k ≤ 60) ∧ M 430 10 + k ≤ 9999)) ∧ v9 = some (0, -1) ∧ M9 = M)) := by
  refine Con.ofV (al := [(1, 429), (0, k)]) 0 (by decide) (Nat.le_of_ble_eq_true rfl) rfl ?_
  refine r_iload_n dX11_hour_0 rfl ?_
  refine r_iconst dX11_hour_1 (by decide) ?_
  refine r_bipush dX11_hour_2 (by decide) (by decide) ?_
  refine r_cs3 dX11_hour_4 clX11_62 (by first | decide | omega) (Nat.le_of_ble_eq_true rfl) (c_isIn) ⟨Nat.zero_le _, Nat.zero_le _⟩ (fun _ => ?_)
  refine r_if_eq (tgt := 43) dX11_hour_7 (by decide) (fun h7 => ?_) (fun h7 => ?_)
  · try have h7 := bi_0.mp h7
    refine r_iconst dX11_hour_43 (by decide) ?_
    refine r_iret dX11_hour_44 rfl ?_
    first | exact ⟨rfl, Or.inl ⟨by omega, rfl, rfl⟩⟩ | exact ⟨rfl, Or.inr (⟨by omega, rfl, rfl⟩)⟩
  · try have h7 := bi_1.mp h7
    refine r_aload_n dX11_hour_10 rfl (by decide) ?_
    refine r_getr (x := 430) dX11_hour_11 flX11_7 sf429 (by decide) (by decide) rfl rfl ?_
    refine r_bipush dX11_hour_14 (by decide) (by decide) ?_
    refine r_iald dX11_hour_16 sf430 (by decide) (by (try have h10 := wa_10 hW); omega) (by (try have h10 := wa_10 hW); omega) (by decide) (by first | assumption | ((repeat (first | (apply rd_ne; · omega) | (apply rd_eq; · omega) | (apply rd_out; · omega) | (apply rd_in; · omega))); first | assumption | rfl)) ?_
    refine r_iload_n dX11_hour_17 rfl ?_
    refine r_iadd dX11_hour_18 (w32_id (by (try have h10 := wa_10 hW); omega)) ?_
    refine r_sipush dX11_hour_19 (by decide) (by decide) ?_
    refine r_icmp_gt (tgt := 43) dX11_hour_22 (by decide) (fun h22 => ?_) (fun h22 => ?_)
    · refine r_iconst dX11_hour_43 (by decide) ?_
      refine r_iret dX11_hour_44 rfl ?_
      first | exact ⟨rfl, Or.inl ⟨by omega, rfl, rfl⟩⟩ | exact ⟨rfl, Or.inr (⟨by omega, rfl, rfl⟩)⟩
    · refine r_aload_n dX11_hour_25 rfl (by decide) ?_
      obtain ⟨k, rfl⟩ : ∃ j : Nat, k = (j : Int) := ⟨k.toNat, by omega⟩
      have h1 := apS_w hW (n := (n : Int)) (by omega) k (by omega)
      refine r_iload_n dX11_hour_26 rfl ?_
      refine r_cv1 dX11_hour_27 clX11_354 sf429 (by decide) (by decide) rfl (by first | decide | omega) (Nat.le_of_ble_eq_true rfl) ((m_passed1 hW hn hn12 (by omega))) ⟨Nat.zero_le _, Nat.zero_le _⟩ (fun _ => ?_)
      refine r_if_eq (tgt := 43) dX11_hour_30 (by decide) (fun h30 => by exfalso; omega) (fun h30 => ?_)
      refine r_aload_n dX11_hour_33 rfl (by decide) ?_
      refine r_getr (x := 430) dX11_hour_34 flX11_7 sf429 (by decide) (by decide) rfl rfl ?_
      refine r_bipush dX11_hour_37 (by decide) (by decide) ?_
      refine r_iald dX11_hour_39 sf430 (by decide) (by (try have h10 := wa_10 hW); omega) (by (try have h10 := wa_10 hW); omega) (by decide) h1.2.1 ?_
      refine r_goto (tgt := 44) dX11_hour_40 (by decide) ?_
      refine r_iret dX11_hour_44 rfl ?_
      first | exact ⟨rfl, Or.inl ⟨by omega, rfl, rfl⟩⟩ | exact ⟨rfl, Or.inr (⟨by omega, rfl, rfl⟩)⟩
theorem m_damp {x y z : Int} {M : Me} (hW : WA M) {n : Nat} (hn : M 430 14 = (n : Int)) (hn12 : n ≤ 12) {k : Int} : Con kX11_damp 5 0 0 [(1, 429), (0, k)] (Sf x y z) M (fun v9 S9 M9 => S9 = (Sf x y z) ∧ ((1 ≤ k ∧ k ≤ 9) ∧ v9 = some (0, (dmS (kpA M) n k n).2) ∧ M9 = (dmS (kpA M) n k n).1 ∨ (¬ (1 ≤ k ∧ k ≤ 9)) ∧ v9 = some (0, -1) ∧ M9 = M)) := by
  refine Con.ofV (al := [(1, 429), (0, k)]) 0 (by decide) (Nat.le_of_ble_eq_true rfl) rfl ?_
  refine r_iload_n dX11_damp_0 rfl ?_
  refine r_iconst dX11_damp_1 (by decide) ?_
  refine r_bipush dX11_damp_2 (by decide) (by decide) ?_
  refine r_cs3 dX11_damp_4 clX11_62 (by first | decide | omega) (Nat.le_of_ble_eq_true rfl) (c_isIn) ⟨Nat.zero_le _, Nat.zero_le _⟩ (fun _ => ?_)
  refine r_if_ne (tgt := 12) dX11_damp_7 (by decide) (fun h7 => ?_) (fun h7 => ?_)
  · try have h7 := bi_1.mp h7
    refine r_aload_n dX11_damp_12 rfl (by decide) ?_
    refine r_cw0 dX11_damp_13 clX11_342 sf429 (by decide) (by decide) rfl (by first | decide | omega) (Nat.le_of_ble_eq_true rfl) ((m_keep (wa_3 hW))) ⟨Nat.zero_le _, Nat.zero_le _⟩ ?_
    refine r_aload_n dX11_damp_16 rfl (by decide) ?_
    refine r_iload_n dX11_damp_17 rfl ?_
    refine r_cv1 dX11_damp_18 clX11_348 sf429 (by decide) (by decide) rfl (by first | decide | omega) (Nat.le_of_ble_eq_true rfl) ((m_dampNow (wa_kp hW) ((kpA_o (wa_3 hW) (by omega)).trans hn) hn12)) ⟨Nat.zero_le _, Nat.zero_le _⟩ (fun _ => ?_)
    refine r_iret dX11_damp_21 rfl ?_
    first | exact ⟨rfl, Or.inl ⟨by omega, rfl, rfl⟩⟩ | exact ⟨rfl, Or.inr (⟨by omega, rfl, rfl⟩)⟩
  · try have h7 := bi_0.mp h7
    refine r_iconst dX11_damp_10 (by decide) ?_
    refine r_iret dX11_damp_11 rfl ?_
    first | exact ⟨rfl, Or.inl ⟨by omega, rfl, rfl⟩⟩ | exact ⟨rfl, Or.inr (⟨by omega, rfl, rfl⟩)⟩
theorem m_pattern {x y z : Int} {M : Me} (hW : WA M) {n : Nat} (hn : M 430 14 = (n : Int)) (hn12 : n ≤ 12) {c : Int} : Con kX11_pattern 5 0 0 [(1, 429), (0, c)] (Sf x y z) M (fun v9 S9 M9 => S9 = (Sf x y z) ∧ (((0 ≤ c ∧ c ≤ M 430 14 - 1) ∧ cbk M n c) ∧ v9 = some (0, 1) ∧ M9 = bcA (kpA M) c 0 (M 430 (15 + 7 * c + 4)) ∨ ¬ ((0 ≤ c ∧ c ≤ M 430 14 - 1) ∧ cbk M n c) ∧ v9 = some (0, 0) ∧ M9 = M)) := by
  refine Con.ofV (al := [(1, 429), (0, c)]) 0 (by decide) (Nat.le_of_ble_eq_true rfl) rfl ?_
  have h14 := wa_14 hW
  refine r_aload_n dX11_pattern_0 rfl (by decide) ?_
  refine r_iload_n dX11_pattern_1 rfl ?_
  refine r_cv1 dX11_pattern_2 clX11_81 sf429 (by decide) (by decide) rfl (by first | decide | omega) (Nat.le_of_ble_eq_true rfl) ((m_isCrease (wa_14 hW))) ⟨Nat.zero_le _, Nat.zero_le _⟩ (fun _ => ?_)
  refine r_if_eq (tgt := 16) dX11_pattern_5 (by decide) (fun h5 => ?_) (fun h5 => ?_)
  · try have h5 := bi_0.mp h5
    refine r_iconst dX11_pattern_16 (by decide) ?_
    refine r_zret dX11_pattern_17 rfl (by omega) ?_
    first | exact ⟨rfl, Or.inr ⟨fun q => absurd q.1 (by assumption), rfl, rfl⟩⟩ | exact ⟨rfl, Or.inr ⟨fun q => absurd q.2 (by assumption), rfl, rfl⟩⟩ | exact ⟨rfl, Or.inl ⟨⟨by assumption, by assumption⟩, rfl, rfl⟩⟩
  · try have h5 := bi_1.mp h5
    refine r_aload_n dX11_pattern_8 rfl (by decide) ?_
    refine r_iload_n dX11_pattern_9 rfl ?_
    refine r_cv1 dX11_pattern_10 clX11_339 sf429 (by decide) (by decide) rfl (by first | decide | omega) (Nat.le_of_ble_eq_true rfl) ((m_canBack (by omega) hn hn12)) ⟨Nat.zero_le _, Nat.zero_le _⟩ (fun _ => ?_)
    refine r_if_ne (tgt := 18) dX11_pattern_13 (by decide) (fun h13 => ?_) (fun h13 => ?_)
    · try have h13 := bi_1.mp h13
      refine r_aload_n dX11_pattern_18 rfl (by decide) ?_
      refine r_cw0 dX11_pattern_19 clX11_342 sf429 (by decide) (by decide) rfl (by first | decide | omega) (Nat.le_of_ble_eq_true rfl) ((m_keep (wa_3 hW))) ⟨Nat.zero_le _, Nat.zero_le _⟩ ?_
      refine r_aload_n dX11_pattern_22 rfl (by decide) ?_
      refine r_iload_n dX11_pattern_23 rfl ?_
      refine r_iconst dX11_pattern_24 (by decide) ?_
      refine r_aload_n dX11_pattern_25 rfl (by decide) ?_
      refine r_iload_n dX11_pattern_26 rfl ?_
      refine r_iconst dX11_pattern_27 (by decide) ?_
      refine r_cv2 dX11_pattern_28 clX11_66 sf429 (by decide) (by decide) rfl (by first | decide | omega) (Nat.le_of_ble_eq_true rfl) ((c_get (by omega) (by decide))) ⟨Nat.zero_le _, Nat.zero_le _⟩ (fun _ => ?_)
      rw [kpA_o (wa_3 hW) (show ¬ ((430 : Int) = 430 ∧ (15 + 7 * c + 4 = 3 ∨ (192 ≤ 15 + 7 * c + 4 ∧ 15 + 7 * c + 4 < 2112))) by omega)]
      refine r_cw3 dX11_pattern_31 clX11_330 sf429 (by decide) (by decide) rfl (by first | decide | omega) (Nat.le_of_ble_eq_true rfl) ((m_become (by omega) (by decide) (wa_12 (wa_kp hW)) (wa_10 (wa_kp hW)))) ⟨Nat.zero_le _, Nat.zero_le _⟩ ?_
      refine r_iconst dX11_pattern_34 (by decide) ?_
      refine r_zret dX11_pattern_35 rfl (by omega) ?_
      first | exact ⟨rfl, Or.inr ⟨fun q => absurd q.1 (by assumption), rfl, rfl⟩⟩ | exact ⟨rfl, Or.inr ⟨fun q => absurd q.2 (by assumption), rfl, rfl⟩⟩ | exact ⟨rfl, Or.inl ⟨⟨by assumption, by assumption⟩, rfl, rfl⟩⟩
    · try have h13 := bi_0.mp h13
      refine r_iconst dX11_pattern_16 (by decide) ?_
      refine r_zret dX11_pattern_17 rfl (by omega) ?_
      first | exact ⟨rfl, Or.inr ⟨fun q => absurd q.1 (by assumption), rfl, rfl⟩⟩ | exact ⟨rfl, Or.inr ⟨fun q => absurd q.2 (by assumption), rfl, rfl⟩⟩ | exact ⟨rfl, Or.inl ⟨⟨by assumption, by assumption⟩, rfl, rfl⟩⟩
