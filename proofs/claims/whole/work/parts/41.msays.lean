/-- the first law of the sort u in the text t, or -1 -/
def lwI (T : Int → Int) (t u : Int) : Nat → Int
  | 0 => -1
  | l + 1 => if 0 ≤ lwI T t u l then lwI T t u l else if T (705 * t + 1 + 4 * (l : Int)) = u then (l : Int) else -1
theorem lwI_n {T : Int → Int} {t u : Int} : ∀ n : Nat, (∀ q : Nat, q < n → T (705 * t + 1 + 4 * (q : Int)) ≠ u) → lwI T t u n = -1 := by
  intro n
  induction n with
  | zero => intro _; rfl
  | succ n ih =>
    intro h
    unfold lwI
    rw [ih (fun q hq => h q (by omega)), if_neg (by decide), if_neg (h n (by omega))]
theorem lwI_s {T : Int → Int} {t u : Int} {l : Nat} (h1 : T (705 * t + 1 + 4 * (l : Int)) = u) (h2 : ∀ q : Nat, q < l → T (705 * t + 1 + 4 * (q : Int)) ≠ u) : ∀ m : Nat, lwI T t u (l + 1 + m) = (l : Int) := by
  intro m
  induction m with
  | zero =>
    show lwI T t u (l + 1) = _
    unfold lwI
    rw [lwI_n l h2, if_neg (by decide), if_pos h1]
  | succ m ih =>
    show (if 0 ≤ lwI T t u (l + 1 + m) then lwI T t u (l + 1 + m) else _) = _
    rw [ih, if_pos (by omega)]
def lwX (M : Me) (t u : Int) (cn : Nat) : Int := if t < 0 then -1 else lwI (M 432) t u cn
/-- what a text says of a sort, and the reference's memory behind it -/
def syV (M : Me) (t u g o : Int) (cn : Nat) : Int := if lwX M t u cn < 0 then hld g 0 o else hld ((smR M t (lwX M t u cn)).1 0) 0 o
def syM (M : Me) (t u : Int) (cn : Nat) : Me := if lwX M t u cn < 0 then M else evM M (smR M t (lwX M t u cn)).1 (smR M t (lwX M t u cn)).2.1
theorem syV_b {M : Me} {t u g o : Int} {cn : Nat} (h : 0 ≤ o) : 0 ≤ syV M t u g o cn ∧ syV M t u g o cn ≤ o := by
  unfold syV
  split
  · exact hld_b h
  · exact hld_b h
theorem syM_o {M : Me} {t u : Int} {cn : Nat} {a j : Int} (h : ¬ (a = 436 ∧ 0 ≤ j ∧ j < 330) ∧ ¬ (a = 437 ∧ 0 ≤ j ∧ j < 330)) : syM M t u cn a j = M a j := by
  unfold syM
  split
  · rfl
  · exact evM_o h
theorem m_saysE {x y z : Int} {M : Me} {t u g o : Int} {cn : Nat} (ht : t < 4) (hcn : 0 ≤ t → M 432 (705 * t) = (cn : Int)) (hc24 : cn ≤ 24) (ho : 0 ≤ o) (ho2 : o < 2147483648) (h14 : 0 ≤ M 430 14 ∧ M 430 14 ≤ 12) (hL : 0 ≤ t → ∀ l : Nat, l < cn → M 432 (705 * t + 1 + 4 * (l : Int)) = u → LOK M t l) : Con kX11_says 3 0 0 [(1, 429), (0, t), (0, u), (0, g), (0, o)] (Sf x y z) M (Ex (some (0, syV M t u g o cn)) (Sf x y z) (syM M t u cn)) :=
  (m_says ht hcn hc24 ho ho2 h14 hL).mono (fun v9 S9 M9 h => by
    obtain ⟨h1, ⟨h2, h3, h4⟩ | ⟨l, h2, h3, h4, h5, h6, h7⟩⟩ := h
    · have e : lwX M t u cn = -1 := by
        unfold lwX
        by_cases q : t < 0
        · rw [if_pos q]
        · rw [if_neg q]; exact lwI_n cn (h2.elim (fun w => absurd w q) id)
      refine ⟨?_, h1, ?_⟩
      · unfold syV; rw [e, if_pos (by decide)]; exact h3
      · unfold syM; rw [e, if_pos (by decide)]; exact h4
    · have e : lwX M t u cn = (l : Int) := by
        unfold lwX
        rw [if_neg (by omega)]
        have := lwI_s (T := M 432) (t := t) (u := u) h4 h5 (cn - (l + 1))
        rwa [show l + 1 + (cn - (l + 1)) = cn by omega] at this
      refine ⟨?_, h1, ?_⟩
      · unfold syV; rw [e, if_neg (by omega)]; exact h6
      · unfold syM; rw [e, if_neg (by omega)]; exact h7)
theorem m_pressesOf {x y z : Int} {M : Me} (hW : WA M) {n : Nat} (hn : M 430 14 = (n : Int)) (hn12 : n ≤ 12) {c : Int} (hc : 0 ≤ c ∧ c < 12) {cn : Nat} (hcn : 0 ≤ (M 430 2) → M 432 (705 * (M 430 2)) = (cn : Int)) (hc24 : cn ≤ 24) (hL : 0 ≤ (M 430 2) → ∀ l : Nat, l < cn → M 432 (705 * (M 430 2) + 1 + 4 * (l : Int)) = 0 → LOK (nmA M n c) (M 430 2) l) : Con kX11_pressesOf 4 0 0 [(1, 429), (0, c)] (Sf x y z) M (Ex (some (0, syV (nmA M n c) (M 430 2) 0 (if nmV M n c 3 = 2 then 1 else M 430 13 / 2) 9 cn)) (Sf x y z) (syM (nmA M n c) (M 430 2) 0 cn)) := by
  refine Con.ofV (al := [(1, 429), (0, c)]) 0 (by decide) (Nat.le_of_ble_eq_true rfl) rfl ?_
  have h13 := wa_13 hW
  refine r_aload_n dX11_pressesOf_0 rfl (by decide) ?_
  refine r_iload_n dX11_pressesOf_1 rfl ?_
  refine r_cw1 dX11_pressesOf_2 clX11_305 sf429 (by decide) (by decide) rfl (by first | decide | omega) (Nat.le_of_ble_eq_true rfl) ((m_name hW hn hn12 hc)) ⟨Nat.zero_le _, Nat.zero_le _⟩ ?_
  refine r_aload_n dX11_pressesOf_5 rfl (by decide) ?_
  refine r_aload_n dX11_pressesOf_6 rfl (by decide) ?_
  refine r_getr (x := 430) dX11_pressesOf_7 flX11_7 sf429 (by decide) (by decide) rfl rfl ?_
  refine r_iconst dX11_pressesOf_10 (by decide) ?_
  refine r_iald dX11_pressesOf_11 sf430 (by decide) (by omega) (by omega) (by decide) (row1_o (by omega)) ?_
  refine r_iconst dX11_pressesOf_12 (by decide) ?_
  refine r_aload_n dX11_pressesOf_13 rfl (by decide) ?_
  refine r_getr (x := 435) dX11_pressesOf_14 flX11_32 sf429 (by decide) (by decide) rfl rfl ?_
  refine r_iconst dX11_pressesOf_17 (by decide) ?_
  refine r_iald dX11_pressesOf_18 sf435 (by decide) (by omega) (by omega) (by decide) (rd_rX (by omega) rfl) ?_
  refine r_iconst dX11_pressesOf_19 (by decide) ?_
  refine r_icmp_ne (tgt := 27) dX11_pressesOf_20 (by decide) (fun h20 => ?_) (fun h20 => ?_)
  · refine r_aload_n dX11_pressesOf_27 rfl (by decide) ?_
    refine r_getr (x := 430) dX11_pressesOf_28 flX11_7 sf429 (by decide) (by decide) rfl rfl ?_
    refine r_bipush dX11_pressesOf_31 (by decide) (by decide) ?_
    refine r_iald dX11_pressesOf_33 sf430 (by decide) (by omega) (by omega) (by decide) (row1_o (by omega)) ?_
    refine r_iconst dX11_pressesOf_34 (by decide) ?_
    refine r_idiv dX11_pressesOf_35 (by omega) (dvn (by omega) (by omega) (by omega)) ?_
    refine r_bipush dX11_pressesOf_36 (by decide) (by decide) ?_
    refine r_cv4 dX11_pressesOf_38 clX11_308 sf429 (by decide) (by decide) rfl (by first | decide | omega) (Nat.le_of_ble_eq_true rfl) ((m_saysE (M := nmA M n c) (by have := wa_2 hW; omega) (fun q => (row1_o (by omega)).trans (hcn q)) hc24 (by decide) (by decide) (by rw [show nmA M n c 430 14 = M 430 14 from row1_o (by omega)]; exact wa_14 hW) (fun q l hl e => hL q l hl ((row1_o (by omega)).symm.trans e)))) ⟨Nat.zero_le _, Nat.zero_le _⟩ (fun _ => ?_)
    refine r_iret dX11_pressesOf_41 rfl ?_
    first | exact ⟨by rw [if_pos (by omega)], rfl, rfl⟩ | exact ⟨by rw [if_neg (by omega)], rfl, rfl⟩ | exact ⟨rfl, rfl, rfl⟩
  · refine r_iconst dX11_pressesOf_23 (by decide) ?_
    refine r_goto (tgt := 36) dX11_pressesOf_24 (by decide) ?_
    refine r_bipush dX11_pressesOf_36 (by decide) (by decide) ?_
    refine r_cv4 dX11_pressesOf_38 clX11_308 sf429 (by decide) (by decide) rfl (by first | decide | omega) (Nat.le_of_ble_eq_true rfl) ((m_saysE (M := nmA M n c) (by have := wa_2 hW; omega) (fun q => (row1_o (by omega)).trans (hcn q)) hc24 (by decide) (by decide) (by rw [show nmA M n c 430 14 = M 430 14 from row1_o (by omega)]; exact wa_14 hW) (fun q l hl e => hL q l hl ((row1_o (by omega)).symm.trans e)))) ⟨Nat.zero_le _, Nat.zero_le _⟩ (fun _ => ?_)
    refine r_iret dX11_pressesOf_41 rfl ?_
    first | exact ⟨by rw [if_pos (by omega)], rfl, rfl⟩ | exact ⟨by rw [if_neg (by omega)], rfl, rfl⟩ | exact ⟨rfl, rfl, rfl⟩
theorem m_scorchesOf {x y z : Int} {M : Me} (hW : WA M) {n : Nat} (hn : M 430 14 = (n : Int)) (hn12 : n ≤ 12) {c : Int} (hc : 0 ≤ c ∧ c < 12) {cn : Nat} (hcn : 0 ≤ (M 430 2) → M 432 (705 * (M 430 2)) = (cn : Int)) (hc24 : cn ≤ 24) (hL : 0 ≤ (M 430 2) → ∀ l : Nat, l < cn → M 432 (705 * (M 430 2) + 1 + 4 * (l : Int)) = 1 → LOK (nmA M n c) (M 430 2) l) : Con kX11_scorchesOf 4 0 0 [(1, 429), (0, c)] (Sf x y z) M (Ex (some (0, syV (nmA M n c) (M 430 2) 1 (M 430 13 - 6) 10 cn)) (Sf x y z) (syM (nmA M n c) (M 430 2) 1 cn)) := by
  refine Con.ofV (al := [(1, 429), (0, c)]) 0 (by decide) (Nat.le_of_ble_eq_true rfl) rfl ?_
  have h13 := wa_13 hW
  refine r_aload_n dX11_scorchesOf_0 rfl (by decide) ?_
  refine r_iload_n dX11_scorchesOf_1 rfl ?_
  refine r_cw1 dX11_scorchesOf_2 clX11_305 sf429 (by decide) (by decide) rfl (by first | decide | omega) (Nat.le_of_ble_eq_true rfl) ((m_name hW hn hn12 hc)) ⟨Nat.zero_le _, Nat.zero_le _⟩ ?_
  refine r_aload_n dX11_scorchesOf_5 rfl (by decide) ?_
  refine r_aload_n dX11_scorchesOf_6 rfl (by decide) ?_
  refine r_getr (x := 430) dX11_scorchesOf_7 flX11_7 sf429 (by decide) (by decide) rfl rfl ?_
  refine r_iconst dX11_scorchesOf_10 (by decide) ?_
  refine r_iald dX11_scorchesOf_11 sf430 (by decide) (by omega) (by omega) (by decide) (row1_o (by omega)) ?_
  refine r_iconst dX11_scorchesOf_12 (by decide) ?_
  refine r_aload_n dX11_scorchesOf_13 rfl (by decide) ?_
  refine r_getr (x := 430) dX11_scorchesOf_14 flX11_7 sf429 (by decide) (by decide) rfl rfl ?_
  refine r_bipush dX11_scorchesOf_17 (by decide) (by decide) ?_
  refine r_iald dX11_scorchesOf_19 sf430 (by decide) (by omega) (by omega) (by decide) (row1_o (by omega)) ?_
  refine r_bipush dX11_scorchesOf_20 (by decide) (by decide) ?_
  refine r_isub dX11_scorchesOf_22 (w32_id (by omega)) ?_
  refine r_bipush dX11_scorchesOf_23 (by decide) (by decide) ?_
  refine r_cv4 dX11_scorchesOf_25 clX11_308 sf429 (by decide) (by decide) rfl (by first | decide | omega) (Nat.le_of_ble_eq_true rfl) ((m_saysE (M := nmA M n c) (by have := wa_2 hW; omega) (fun q => (row1_o (by omega)).trans (hcn q)) hc24 (by decide) (by decide) (by rw [show nmA M n c 430 14 = M 430 14 from row1_o (by omega)]; exact wa_14 hW) (fun q l hl e => hL q l hl ((row1_o (by omega)).symm.trans e)))) ⟨Nat.zero_le _, Nat.zero_le _⟩ (fun _ => ?_)
  refine r_iret dX11_scorchesOf_28 rfl ?_
  first | exact ⟨by rw [if_pos (by omega)], rfl, rfl⟩ | exact ⟨by rw [if_neg (by omega)], rfl, rfl⟩ | exact ⟨rfl, rfl, rfl⟩
theorem m_priceOf {x y z : Int} {M : Me} {t : Int} (ht : t < 4) (hW : WA M) {n : Nat} (hn : M 430 14 = (n : Int)) (hn12 : n ≤ 12) {c : Int} (hc : 0 ≤ c ∧ c < 12) {cn : Nat} (hcn : 0 ≤ t → M 432 (705 * t) = (cn : Int)) (hc24 : cn ≤ 24) (hL : 0 ≤ t → ∀ l : Nat, l < cn → M 432 (705 * t + 1 + 4 * (l : Int)) = 2 → LOK (nmA M n c) t l) : Con kX11_priceOf 4 0 0 [(1, 429), (0, t), (0, c)] (Sf x y z) M (Ex (some (0, syV (nmA M n c) t 2 (nmV M n c 5) 9999 cn)) (Sf x y z) (syM (nmA M n c) t 2 cn)) := by
  refine Con.ofV (al := [(1, 429), (0, t), (0, c)]) 0 (by decide) (Nat.le_of_ble_eq_true rfl) rfl ?_
  refine r_aload_n dX11_priceOf_0 rfl (by decide) ?_
  refine r_iload_n dX11_priceOf_1 rfl ?_
  refine r_cw1 dX11_priceOf_2 clX11_305 sf429 (by decide) (by decide) rfl (by first | decide | omega) (Nat.le_of_ble_eq_true rfl) ((m_name hW hn hn12 hc)) ⟨Nat.zero_le _, Nat.zero_le _⟩ ?_
  refine r_aload_n dX11_priceOf_5 rfl (by decide) ?_
  refine r_iload_n dX11_priceOf_6 rfl ?_
  refine r_iconst dX11_priceOf_7 (by decide) ?_
  refine r_aload_n dX11_priceOf_8 rfl (by decide) ?_
  refine r_getr (x := 435) dX11_priceOf_9 flX11_32 sf429 (by decide) (by decide) rfl rfl ?_
  refine r_iconst dX11_priceOf_12 (by decide) ?_
  refine r_iald dX11_priceOf_13 sf435 (by decide) (by omega) (by omega) (by decide) (rd_rX (by omega) rfl) ?_
  refine r_sipush dX11_priceOf_14 (by decide) (by decide) ?_
  refine r_cv4 dX11_priceOf_17 clX11_308 sf429 (by decide) (by decide) rfl (by first | decide | omega) (Nat.le_of_ble_eq_true rfl) ((m_saysE (M := nmA M n c) ht (fun q => (row1_o (by omega)).trans (hcn q)) hc24 (by decide) (by decide) (by rw [show nmA M n c 430 14 = M 430 14 from row1_o (by omega)]; exact wa_14 hW) (fun q l hl e => hL q l hl ((row1_o (by omega)).symm.trans e)))) ⟨Nat.zero_le _, Nat.zero_le _⟩ (fun _ => ?_)
  refine r_iret dX11_priceOf_20 rfl ?_
  first | exact ⟨by rw [if_pos (by omega)], rfl, rfl⟩ | exact ⟨by rw [if_neg (by omega)], rfl, rfl⟩ | exact ⟨rfl, rfl, rfl⟩
