/-- the class's memory behind a token: where, from where, which, its number -/
def tcM (M : Me) (p st kd vl : Int) : Me := fun a j => if a = 2 then (if j = 5 then p else if j = 6 then st else if j = 7 then kd else if j = 8 then vl else M a j) else M a j
theorem tc_o {M : Me} {p st kd vl a j : Int} (h : ¬ (a = 2 ∧ 5 ≤ j ∧ j ≤ 8)) : tcM M p st kd vl a j = M a j := by
  unfold tcM
  by_cases ha : a = 2
  · rw [if_pos ha, if_neg (by omega), if_neg (by omega), if_neg (by omega), if_neg (by omega)]
  · rw [if_neg ha]
theorem tc_id {M : Me} : M = tcM M (M 2 5) (M 2 6) (M 2 7) (M 2 8) := by
  funext a j
  by_cases h : a = 2 ∧ 5 ≤ j ∧ j ≤ 8
  · obtain ⟨rfl, h1, h2⟩ := h
    rcases (show j = 5 ∨ j = 6 ∨ j = 7 ∨ j = 8 by omega) with r | r | r | r <;> subst r <;> rfl
  · exact (tc_o h).symm
theorem tc_r5 {M : Me} {p st kd vl : Int} : tcM M p st kd vl 2 5 = p := rfl
theorem tc_5 {M : Me} {p st kd vl v : Int} : up (tcM M p st kd vl) 2 5 v = tcM M v st kd vl := by
  funext a j
  unfold up tcM
  by_cases ha : a = 2
  · by_cases hj : j = 5
    · subst ha; subst hj; simp
    · simp [ha, hj]
  · simp [ha]
theorem tc_r6 {M : Me} {p st kd vl : Int} : tcM M p st kd vl 2 6 = st := rfl
theorem tc_6 {M : Me} {p st kd vl v : Int} : up (tcM M p st kd vl) 2 6 v = tcM M p v kd vl := by
  funext a j
  unfold up tcM
  by_cases ha : a = 2
  · by_cases hj : j = 6
    · subst ha; subst hj; simp
    · simp [ha, hj]
  · simp [ha]
theorem tc_r7 {M : Me} {p st kd vl : Int} : tcM M p st kd vl 2 7 = kd := rfl
theorem tc_7 {M : Me} {p st kd vl v : Int} : up (tcM M p st kd vl) 2 7 v = tcM M p st v vl := by
  funext a j
  unfold up tcM
  by_cases ha : a = 2
  · by_cases hj : j = 7
    · subst ha; subst hj; simp
    · simp [ha, hj]
  · simp [ha]
theorem tc_r8 {M : Me} {p st kd vl : Int} : tcM M p st kd vl 2 8 = vl := rfl
theorem tc_8 {M : Me} {p st kd vl v : Int} : up (tcM M p st kd vl) 2 8 v = tcM M p st kd v := by
  funext a j
  unfold up tcM
  by_cases ha : a = 2
  · by_cases hj : j = 8
    · subst ha; subst hj; simp
    · simp [ha, hj]
  · simp [ha]
/-- the byte of the tape at i, or -1 -/
def btc (M : Me) (i : Int) : Int := if i < M 2 0 then M 3 i else -1
theorem btc_i {M : Me} {i : Int} (h : i < M 2 0) : btc M i = M 3 i := if_pos h
theorem btc_e {M : Me} {i : Int} (h : M 2 0 ≤ i) : btc M i = -1 := if_neg (by omega)
abbrev dgP (v : Int) : Prop := 48 ≤ v ∧ v ≤ 57
abbrev ltP (v : Int) : Prop := 97 ≤ v ∧ v ≤ 122 ∨ 65 ≤ v ∧ v ≤ 90
def skC (M : Me) : Nat → Int → Int
  | 0, i => i
  | f + 1, i => if btc M i = 32 ∨ btc M i = 10 then skC M f (i + 1) else i
def nuC (M : Me) : Nat → Int → Int → Int × Int
  | 0, i, u => (i, u)
  | f + 1, i, u => if dgP (btc M i) then nuC M f (i + 1) (min (u * 10 + btc M i - 48) 10000) else (i, u)
def wlE (M : Me) : Nat → Int → Int
  | 0, i => i
  | f + 1, i => if ltP (btc M i) then wlE M f (i + 1) else i
theorem skC_b {M : Me} : ∀ (f : Nat) (i : Int), i ≤ skC M f i ∧ skC M f i ≤ i + f := by
  intro f
  induction f with
  | zero => intro i; exact (show i ≤ i ∧ i ≤ i + ((0 : Nat) : Int) by omega)
  | succ f ih =>
    intro i
    have := ih (i + 1)
    unfold skC
    split <;> omega
theorem wlE_b {M : Me} : ∀ (f : Nat) (i : Int), i ≤ wlE M f i ∧ wlE M f i ≤ i + f := by
  intro f
  induction f with
  | zero => intro i; exact (show i ≤ i ∧ i ≤ i + ((0 : Nat) : Int) by omega)
  | succ f ih =>
    intro i
    have := ih (i + 1)
    unfold wlE
    split <;> omega
theorem nuC_b {M : Me} : ∀ (f : Nat) (i u : Int), i ≤ (nuC M f i u).1 ∧ (nuC M f i u).1 ≤ i + f := by
  intro f
  induction f with
  | zero => intro i u; exact (show i ≤ i ∧ i ≤ i + ((0 : Nat) : Int) by omega)
  | succ f ih =>
    intro i u
    have := ih (i + 1) (min (u * 10 + btc M i - 48) 10000)
    unfold nuC
    split
    · omega
    · exact (show i ≤ i ∧ i ≤ i + ((f + 1 : Nat) : Int) by omega)
/-- the words of WORDS against the letters from st to en: the token, the word that runs, where it is the same up to -/
def gwS (M : Me) (st en : Int) : Nat → Int × Int × Int
  | 0 => (1, 16, st)
  | i + 1 => let s := gwS M st en i; if s.1 ≠ 1 then s else if chC (i : Int) ≠ 32 then (1, s.2.1, if 0 ≤ s.2.2 ∧ s.2.2 < en ∧ M 3 s.2.2 = chC (i : Int) then s.2.2 + 1 else -1) else if s.2.2 = en then (s.2.1, s.2.1, s.2.2) else (1, s.2.1 + 1, st)
def gwT (M : Me) (st en : Int) : Int := (gwS M st en 150).1
/-- what a sign stands for; e: = behind it -/
def sgC (v e : Int) : Int := if v = 40 then 3 else if v = 41 then 4 else if v = 59 then 5 else if v = 43 then 6 else if v = 45 then 7 else if v = 42 then 8 else if v = 47 then 9 else if v = 60 then (if e = 0 then 10 else 11) else if v = 62 then (if e = 0 then 12 else 13) else if v = 61 then 14 else if v = 35 then 15 else 1
def orC (M : Me) (s : Int) : Int := if btc M (s + 1) = 61 ∧ (btc M s = 60 ∨ btc M s = 62) then 1 else 0
def goS2 (M : Me) (n : Nat) (s : Int) : Me :=
  if (n : Int) ≤ s then tcM M s s 0 0
  else if dgP (btc M s) then tcM M (nuC M (n - s).toNat s 0).1 s 2 (nuC M (n - s).toNat s 0).2
  else if ltP (btc M s) then tcM M (wlE M (n - s).toNat s) s (gwT M s (wlE M (n - s).toNat s)) 0
  else tcM M (s + 1 + orC M s) s (sgC (btc M s) (orC M s)) 0
/-- the class's next token -/
def goC (M : Me) (n : Nat) : Me := goS2 M n (skC M (n - M 2 5).toNat (M 2 5))
theorem goC_o {M : Me} {n : Nat} {a j : Int} (h : ¬ (a = 2 ∧ 5 ≤ j ∧ j ≤ 8)) : goC M n a j = M a j := by
  unfold goC goS2
  (repeat' split) <;> exact tc_o h
theorem c_isDigit {S : Sh} {M : Me} {v : Int} : Con kX4_isDigit 0 0 0 [(0, v)] S M (Ex (some (0, bi (dgP v))) S M) := by
  refine Con.ofV (al := [(0, v)]) 0 (by decide) (Nat.le_of_ble_eq_true rfl) rfl ?_
  refine r_iload_n dX4_isDigit_0 rfl ?_
  refine r_bipush dX4_isDigit_1 (by decide) (by decide) ?_
  refine r_icmp_lt (tgt := 16) dX4_isDigit_3 (by decide) (fun h3 => ?_) (fun h3 => ?_)
  · refine r_iconst dX4_isDigit_16 (by decide) ?_
    refine r_zret dX4_isDigit_17 rfl (by omega) ?_
    refine ⟨?_, rfl, rfl⟩; unfold bi; (repeat' split) <;> first | rfl | (exfalso; omega)
  · refine r_iload_n dX4_isDigit_6 rfl ?_
    refine r_bipush dX4_isDigit_7 (by decide) (by decide) ?_
    refine r_icmp_gt (tgt := 16) dX4_isDigit_9 (by decide) (fun h9 => ?_) (fun h9 => ?_)
    · refine r_iconst dX4_isDigit_16 (by decide) ?_
      refine r_zret dX4_isDigit_17 rfl (by omega) ?_
      refine ⟨?_, rfl, rfl⟩; unfold bi; (repeat' split) <;> first | rfl | (exfalso; omega)
    · refine r_iconst dX4_isDigit_12 (by decide) ?_
      refine r_goto (tgt := 17) dX4_isDigit_13 (by decide) ?_
      refine r_zret dX4_isDigit_17 rfl (by omega) ?_
      refine ⟨?_, rfl, rfl⟩; unfold bi; (repeat' split) <;> first | rfl | (exfalso; omega)
theorem c_isLetterC {S : Sh} {M : Me} {v : Int} : Con kX4_isLetter 0 0 0 [(0, v)] S M (Ex (some (0, bi (ltP v))) S M) := by
  refine Con.ofV (al := [(0, v)]) 0 (by decide) (Nat.le_of_ble_eq_true rfl) rfl ?_
  refine r_iload_n dX4_isLetter_0 rfl ?_
  refine r_bipush dX4_isLetter_1 (by decide) (by decide) ?_
  refine r_icmp_lt (tgt := 12) dX4_isLetter_3 (by decide) (fun h3 => ?_) (fun h3 => ?_)
  · refine r_iload_n dX4_isLetter_12 rfl ?_
    refine r_bipush dX4_isLetter_13 (by decide) (by decide) ?_
    refine r_icmp_lt (tgt := 28) dX4_isLetter_15 (by decide) (fun h15 => ?_) (fun h15 => ?_)
    · refine r_iconst dX4_isLetter_28 (by decide) ?_
      refine r_zret dX4_isLetter_29 rfl (by omega) ?_
      refine ⟨?_, rfl, rfl⟩; unfold bi; (repeat' split) <;> first | rfl | (exfalso; omega)
    · refine r_iload_n dX4_isLetter_18 rfl ?_
      refine r_bipush dX4_isLetter_19 (by decide) (by decide) ?_
      refine r_icmp_gt (tgt := 28) dX4_isLetter_21 (by decide) (fun h21 => ?_) (fun h21 => ?_)
      · refine r_iconst dX4_isLetter_28 (by decide) ?_
        refine r_zret dX4_isLetter_29 rfl (by omega) ?_
        refine ⟨?_, rfl, rfl⟩; unfold bi; (repeat' split) <;> first | rfl | (exfalso; omega)
      · refine r_iconst dX4_isLetter_24 (by decide) ?_
        refine r_goto (tgt := 29) dX4_isLetter_25 (by decide) ?_
        refine r_zret dX4_isLetter_29 rfl (by omega) ?_
        refine ⟨?_, rfl, rfl⟩; unfold bi; (repeat' split) <;> first | rfl | (exfalso; omega)
  · refine r_iload_n dX4_isLetter_6 rfl ?_
    refine r_bipush dX4_isLetter_7 (by decide) (by decide) ?_
    refine r_icmp_le (tgt := 24) dX4_isLetter_9 (by decide) (fun h9 => ?_) (fun h9 => ?_)
    · refine r_iconst dX4_isLetter_24 (by decide) ?_
      refine r_goto (tgt := 29) dX4_isLetter_25 (by decide) ?_
      refine r_zret dX4_isLetter_29 rfl (by omega) ?_
      refine ⟨?_, rfl, rfl⟩; unfold bi; (repeat' split) <;> first | rfl | (exfalso; omega)
    · refine r_iload_n dX4_isLetter_12 rfl ?_
      refine r_bipush dX4_isLetter_13 (by decide) (by decide) ?_
      refine r_icmp_lt (tgt := 28) dX4_isLetter_15 (by decide) (fun h15 => ?_) (fun h15 => ?_)
      · refine r_iconst dX4_isLetter_28 (by decide) ?_
        refine r_zret dX4_isLetter_29 rfl (by omega) ?_
        refine ⟨?_, rfl, rfl⟩; unfold bi; (repeat' split) <;> first | rfl | (exfalso; omega)
      · refine r_iload_n dX4_isLetter_18 rfl ?_
        refine r_bipush dX4_isLetter_19 (by decide) (by decide) ?_
        refine r_icmp_gt (tgt := 28) dX4_isLetter_21 (by decide) (fun h21 => ?_) (fun h21 => ?_)
        · refine r_iconst dX4_isLetter_28 (by decide) ?_
          refine r_zret dX4_isLetter_29 rfl (by omega) ?_
          refine ⟨?_, rfl, rfl⟩; unfold bi; (repeat' split) <;> first | rfl | (exfalso; omega)
        · refine r_iconst dX4_isLetter_24 (by decide) ?_
          refine r_goto (tgt := 29) dX4_isLetter_25 (by decide) ?_
          refine r_zret dX4_isLetter_29 rfl (by omega) ?_
          refine ⟨?_, rfl, rfl⟩; unfold bi; (repeat' split) <;> first | rfl | (exfalso; omega)
theorem l_goNumber {x y z : Int} {M : Me} {n : Nat} (h0 : M 2 0 = (n : Int)) (hn : n ≤ 300) {st : Int} : ∀ (f : Nat) (i u : Int), 0 ≤ i → i + f = n → 0 ≤ u ∧ u ≤ 10000 → V kX4_goNumber 0 0 1 none (Ex none (Sf x y z) (tcM M (nuC M f i u).1 st 2 (nuC M f i u).2)) 5 [(1, 2)] [] (Sf x y z) (tcM M i st 2 u) 0 0 := by
  intro f
  induction f with
  | zero =>
    intro i u hi hf hu
    refine r_aload_n dX4_goNumber_5 rfl (by decide) ?_
    refine r_gi 5 dX4_goNumber_6 flX4_34 sf2 (by decide) (by decide) rfl rfl tc_r5 ?_
    refine r_aload_n dX4_goNumber_9 rfl (by decide) ?_
    refine r_gi 0 dX4_goNumber_10 flX4_22 sf2 (by decide) (by decide) rfl rfl ((tc_o (by omega)).trans h0) ?_
    refine r_icmp_ge (tgt := 74) dX4_goNumber_13 (by decide) (fun h13 => ?_) (fun h13 => by exfalso; omega)
    refine r_ret0 dX4_goNumber_74 rfl ?_
    exact ⟨rfl, rfl, rfl⟩
  | succ f ih =>
    intro i u hi hf hu
    refine r_aload_n dX4_goNumber_5 rfl (by decide) ?_
    refine r_gi 5 dX4_goNumber_6 flX4_34 sf2 (by decide) (by decide) rfl rfl tc_r5 ?_
    refine r_aload_n dX4_goNumber_9 rfl (by decide) ?_
    refine r_gi 0 dX4_goNumber_10 flX4_22 sf2 (by decide) (by decide) rfl rfl ((tc_o (by omega)).trans h0) ?_
    refine r_icmp_ge (tgt := 74) dX4_goNumber_13 (by decide) (fun h13 => by exfalso; omega) (fun h13 => ?_)
    refine r_aload_n dX4_goNumber_16 rfl (by decide) ?_
    refine r_getr (x := 3) dX4_goNumber_17 flX4_18 sf2 (by decide) (by decide) rfl rfl ?_
    refine r_aload_n dX4_goNumber_20 rfl (by decide) ?_
    refine r_gi 5 dX4_goNumber_21 flX4_34 sf2 (by decide) (by decide) rfl rfl tc_r5 ?_
    refine r_iald dX4_goNumber_24 sf3 (by decide) (by omega) (by omega) (by decide) ((tc_o (by omega)).trans (btc_i (by omega)).symm) ?_
    refine r_cs1 dX4_goNumber_25 clX4_125 (by first | decide | omega) (Nat.le_of_ble_eq_true rfl) (c_isDigit) ⟨Nat.zero_le _, Nat.zero_le _⟩ (fun _ => ?_)
    refine r_if_eq (tgt := 74) dX4_goNumber_28 (by decide) (fun h28 => ?_) (fun h28 => ?_)
    · try have h28 := bi_0.mp h28
      refine r_ret0 dX4_goNumber_74 rfl ?_
      rw [show nuC M (f + 1) i u = (i, u) from if_neg (by assumption)]
      exact ⟨rfl, rfl, rfl⟩
    · try have h28 := bi_1.mp h28
      refine r_aload_n dX4_goNumber_31 rfl (by decide) ?_
      refine r_aload_n dX4_goNumber_32 rfl (by decide) ?_
      refine r_gi 8 dX4_goNumber_33 flX4_84 sf2 (by decide) (by decide) rfl rfl tc_r8 ?_
      refine r_bipush dX4_goNumber_36 (by decide) (by decide) ?_
      refine r_imul dX4_goNumber_38 (w32_id (by omega)) ?_
      refine r_aload_n dX4_goNumber_39 rfl (by decide) ?_
      refine r_getr (x := 3) dX4_goNumber_40 flX4_18 sf2 (by decide) (by decide) rfl rfl ?_
      refine r_aload_n dX4_goNumber_43 rfl (by decide) ?_
      refine r_gi 5 dX4_goNumber_44 flX4_34 sf2 (by decide) (by decide) rfl rfl tc_r5 ?_
      refine r_iald dX4_goNumber_47 sf3 (by decide) (by omega) (by omega) (by decide) ((tc_o (by omega)).trans (btc_i (by omega)).symm) ?_
      refine r_iadd dX4_goNumber_48 (w32_id (by omega)) ?_
      refine r_bipush dX4_goNumber_49 (by decide) (by decide) ?_
      refine r_isub dX4_goNumber_51 (w32_id (by omega)) ?_
      refine r_sipush dX4_goNumber_52 (by decide) (by decide) ?_
      refine r_mmin dX4_goNumber_55 clmX4_140 ma_min1 ii_Math ma_min2 (by first | decide | omega) (Nat.le_of_ble_eq_true rfl) rfl ?_
      refine r_pi 8 dX4_goNumber_58 fpX4_84 sf2 (by decide) (by decide) rfl rfl ?_
      refine V.cm rfl tc_8 ?_
      refine r_aload_n dX4_goNumber_61 rfl (by decide) ?_
      refine r_dup dX4_goNumber_62 (Nat.ne_of_beq_eq_false rfl) ?_
      refine r_gi 5 dX4_goNumber_63 flX4_34 sf2 (by decide) (by decide) rfl rfl tc_r5 ?_
      refine r_iconst dX4_goNumber_66 (by decide) ?_
      refine r_iadd dX4_goNumber_67 (w32_id (by omega)) ?_
      refine r_pi 5 dX4_goNumber_68 fpX4_34 sf2 (by decide) (by decide) rfl rfl ?_
      refine V.cm rfl tc_5 ?_
      refine r_goto (tgt := 5) dX4_goNumber_71 (by decide) ?_
      rw [show nuC M (f + 1) i u = nuC M f (i + 1) (min (u * 10 + btc M i - 48) 10000) from if_pos (by assumption)]
      exact ih _ _ (by omega) (by omega) (by omega)
theorem c_goNumber {x y z : Int} {M : Me} {n : Nat} (h0 : M 2 0 = (n : Int)) (hn : n ≤ 300) {st kd i : Int} (hi : 0 ≤ i ∧ i ≤ n) : Con kX4_goNumber 1 0 0 [(1, 2)] (Sf x y z) (tcM M i st kd 0) (Ex none (Sf x y z) (tcM M (nuC M (n - i).toNat i 0).1 st 2 (nuC M (n - i).toNat i 0).2)) := by
  refine Con.ofV (al := [(1, 2)]) 0 (by decide) (Nat.le_of_ble_eq_true rfl) rfl ?_
  refine r_aload_n dX4_goNumber_0 rfl (by decide) ?_
  refine r_iconst dX4_goNumber_1 (by decide) ?_
  refine r_pi 7 dX4_goNumber_2 fpX4_40 sf2 (by decide) (by decide) rfl rfl ?_
  refine V.cm rfl tc_7 ?_
  exact l_goNumber h0 hn _ _ _ hi.1 (by omega) (by decide)
theorem l_goWord1 {x y z : Int} {M : Me} {n : Nat} (h0 : M 2 0 = (n : Int)) (hn : n ≤ 300) {st kd vl : Int} {Q : Option AV → Sh → Me → Prop} : ∀ (f : Nat) (i : Int), 0 ≤ i → i + f = n → V kX4_goWord 0 0 4 none Q 39 [(1, 2), (9, 0), (9, 0), (9, 0), (9, 0)] [] (Sf x y z) (tcM M (wlE M f i) st kd vl) 0 0 → V kX4_goWord 0 0 4 none Q 0 [(1, 2), (9, 0), (9, 0), (9, 0), (9, 0)] [] (Sf x y z) (tcM M i st kd vl) 0 0 := by
  intro f
  induction f with
  | zero =>
    intro i hi hf hQ
    refine r_aload_n dX4_goWord_0 rfl (by decide) ?_
    refine r_gi 5 dX4_goWord_1 flX4_34 sf2 (by decide) (by decide) rfl rfl tc_r5 ?_
    refine r_aload_n dX4_goWord_4 rfl (by decide) ?_
    refine r_gi 0 dX4_goWord_5 flX4_22 sf2 (by decide) (by decide) rfl rfl ((tc_o (by omega)).trans h0) ?_
    refine r_icmp_ge (tgt := 39) dX4_goWord_8 (by decide) (fun h8 => ?_) (fun h8 => by exfalso; omega)
    exact hQ
  | succ f ih =>
    intro i hi hf hQ
    refine r_aload_n dX4_goWord_0 rfl (by decide) ?_
    refine r_gi 5 dX4_goWord_1 flX4_34 sf2 (by decide) (by decide) rfl rfl tc_r5 ?_
    refine r_aload_n dX4_goWord_4 rfl (by decide) ?_
    refine r_gi 0 dX4_goWord_5 flX4_22 sf2 (by decide) (by decide) rfl rfl ((tc_o (by omega)).trans h0) ?_
    refine r_icmp_ge (tgt := 39) dX4_goWord_8 (by decide) (fun h8 => by exfalso; omega) (fun h8 => ?_)
    refine r_aload_n dX4_goWord_11 rfl (by decide) ?_
    refine r_getr (x := 3) dX4_goWord_12 flX4_18 sf2 (by decide) (by decide) rfl rfl ?_
    refine r_aload_n dX4_goWord_15 rfl (by decide) ?_
    refine r_gi 5 dX4_goWord_16 flX4_34 sf2 (by decide) (by decide) rfl rfl tc_r5 ?_
    refine r_iald dX4_goWord_19 sf3 (by decide) (by omega) (by omega) (by decide) ((tc_o (by omega)).trans (btc_i (by omega)).symm) ?_
    refine r_cs1 dX4_goWord_20 clX4_131 (by first | decide | omega) (Nat.le_of_ble_eq_true rfl) (c_isLetterC) ⟨Nat.zero_le _, Nat.zero_le _⟩ (fun _ => ?_)
    refine r_if_eq (tgt := 39) dX4_goWord_23 (by decide) (fun h23 => ?_) (fun h23 => ?_)
    · try have h23 := bi_0.mp h23
      rw [show wlE M (f + 1) i = i from if_neg (by assumption)] at hQ
      exact hQ
    · try have h23 := bi_1.mp h23
      refine r_aload_n dX4_goWord_26 rfl (by decide) ?_
      refine r_dup dX4_goWord_27 (Nat.ne_of_beq_eq_false rfl) ?_
      refine r_gi 5 dX4_goWord_28 flX4_34 sf2 (by decide) (by decide) rfl rfl tc_r5 ?_
      refine r_iconst dX4_goWord_31 (by decide) ?_
      refine r_iadd dX4_goWord_32 (w32_id (by omega)) ?_
      refine r_pi 5 dX4_goWord_33 fpX4_34 sf2 (by decide) (by decide) rfl rfl ?_
      refine V.cm rfl tc_5 ?_
      refine r_goto (tgt := 0) dX4_goWord_36 (by decide) ?_
      exact ih (i + 1) (by omega) (by omega) (by rw [show wlE M (f + 1) i = wlE M f (i + 1) from if_pos (by assumption)] at hQ; exact hQ)
theorem gwS_e {M : Me} {st en : Int} {i : Nat} (h : (gwS M st en i).1 ≠ 1) : ∀ m : Nat, gwS M st en (i + m) = (gwS M st en i) := by
  intro m
  induction m with
  | zero => rfl
  | succ m ih => exact (if_pos (by rw [show gwS M st en (i.add m) = gwS M st en (i + m) from rfl, ih]; exact h)).trans ih
theorem gw_c {M : Me} {st en : Int} {i : Nat} (h : (gwS M st en i).1 = 1) (hc : chC (i : Int) ≠ 32) (hs : 0 ≤ (gwS M st en i).2.2 ∧ (gwS M st en i).2.2 < en ∧ M 3 (gwS M st en i).2.2 = chC (i : Int)) : gwS M st en (i + 1) = (1, (gwS M st en i).2.1, (gwS M st en i).2.2 + 1) := by
  show (if (gwS M st en i).1 ≠ 1 then (gwS M st en i) else _) = _
  rw [if_neg (by omega), if_pos hc, if_pos hs]
theorem gw_x {M : Me} {st en : Int} {i : Nat} (h : (gwS M st en i).1 = 1) (hc : chC (i : Int) ≠ 32) (hs : ¬ (0 ≤ (gwS M st en i).2.2 ∧ (gwS M st en i).2.2 < en ∧ M 3 (gwS M st en i).2.2 = chC (i : Int))) : gwS M st en (i + 1) = (1, (gwS M st en i).2.1, -1) := by
  show (if (gwS M st en i).1 ≠ 1 then (gwS M st en i) else _) = _
  rw [if_neg (by omega), if_pos hc, if_neg hs]
theorem gw_w {M : Me} {st en : Int} {i : Nat} (h : (gwS M st en i).1 = 1) (hc : chC (i : Int) = 32) (hs : (gwS M st en i).2.2 = en) : gwS M st en (i + 1) = ((gwS M st en i).2.1, (gwS M st en i).2.1, (gwS M st en i).2.2) := by
  show (if (gwS M st en i).1 ≠ 1 then (gwS M st en i) else _) = _
  rw [if_neg (by omega), if_neg (by omega), if_pos hs]
theorem gw_n {M : Me} {st en : Int} {i : Nat} (h : (gwS M st en i).1 = 1) (hc : chC (i : Int) = 32) (hs : (gwS M st en i).2.2 ≠ en) : gwS M st en (i + 1) = (1, (gwS M st en i).2.1 + 1, st) := by
  show (if (gwS M st en i).1 ≠ 1 then (gwS M st en i) else _) = _
  rw [if_neg (by omega), if_neg (by omega), if_neg hs]
theorem gwS_b {M : Me} {st en : Int} (hs : 0 ≤ st ∧ st ≤ 300) : ∀ i : Nat, i ≤ 150 → (16 ≤ (gwS M st en i).2.1 ∧ (gwS M st en i).2.1 ≤ 16 + i) ∧ -1 ≤ (gwS M st en i).2.2 ∧ (gwS M st en i).2.2 ≤ 300 + i := by
  intro i
  induction i with
  | zero => intro _; exact ⟨(show (16 : Int) ≤ 16 ∧ (16 : Int) ≤ 16 + ((0 : Nat) : Int) by omega), (show -1 ≤ st ∧ st ≤ 300 + ((0 : Nat) : Int) by omega)⟩
  | succ i ih =>
    intro hi
    have := ih (by omega)
    by_cases h : (gwS M st en i).1 = 1
    · by_cases hc : chC (i : Int) = 32
      · by_cases h2 : (gwS M st en i).2.2 = en
        · rw [gw_w h hc h2]; exact ⟨by show 16 ≤ (gwS M st en i).2.1 ∧ (gwS M st en i).2.1 ≤ _; omega, by show -1 ≤ (gwS M st en i).2.2 ∧ (gwS M st en i).2.2 ≤ _; omega⟩
        · rw [gw_n h hc h2]; exact ⟨by show 16 ≤ (gwS M st en i).2.1 + 1 ∧ (gwS M st en i).2.1 + 1 ≤ _; omega, by show -1 ≤ st ∧ st ≤ _; omega⟩
      · by_cases h2 : 0 ≤ (gwS M st en i).2.2 ∧ (gwS M st en i).2.2 < en ∧ M 3 (gwS M st en i).2.2 = chC (i : Int)
        · rw [gw_c h hc h2]; exact ⟨by show 16 ≤ (gwS M st en i).2.1 ∧ (gwS M st en i).2.1 ≤ _; omega, by show -1 ≤ (gwS M st en i).2.2 + 1 ∧ (gwS M st en i).2.2 + 1 ≤ _; omega⟩
        · rw [gw_x h hc h2]; exact ⟨by show 16 ≤ (gwS M st en i).2.1 ∧ (gwS M st en i).2.1 ≤ _; omega, by show (-1 : Int) ≤ -1 ∧ (-1 : Int) ≤ _; omega⟩
    · have e := gwS_e h 1
      rw [e]
      exact ⟨by omega, by omega⟩
theorem l_goWord2 {x y z : Int} {M : Me} {n : Nat} (h0 : M 2 0 = (n : Int)) (hn : n ≤ 300) {st en vl : Int} (hs : 0 ≤ st ∧ st ≤ 300) (hen : en ≤ n) : ∀ (m i : Nat), m + i = 150 → V kX4_goWord 0 0 4 none (Ex none (Sf x y z) (tcM M en st (gwT M st en) vl)) 54 [(1, 2), (0, (gwS M st en i).2.1), (0, (gwS M st en i).2.2), (0, (i : Int)), (9, 0)] [] (Sf x y z) (tcM M en st (gwS M st en i).1 vl) 0 0 := by
  intro m
  induction m with
  | zero =>
    intro i hi
    obtain rfl : i = 150 := by omega
    refine r_iload_n dX4_goWord_54 rfl ?_
    refine r_ldcS dX4_goWord_55 rfl ?_
    refine r_cvS0 dX4_goWord_57 clX4_148 rfl (by decide) (Nat.le_of_ble_eq_true rfl) c_length ⟨Nat.zero_le _, Nat.zero_le _⟩ (fun _ => ?_)
    refine r_icmp_ge (tgt := 150) dX4_goWord_60 (by decide) (fun h60 => ?_) (fun h60 => by exfalso; omega)
    refine r_ret0 dX4_goWord_150 rfl ?_
    exact ⟨rfl, rfl, rfl⟩
  | succ m ih =>
    intro i hi
    have hb := gwS_b (M := M) (en := en) hs i (by omega)
    by_cases h1 : (gwS M st en i).1 = 1
    · have ih9 := ih (i + 1) (by omega)
      rw [h1]
      refine r_iload_n dX4_goWord_54 rfl ?_
      refine r_ldcS dX4_goWord_55 rfl ?_
      refine r_cvS0 dX4_goWord_57 clX4_148 rfl (by decide) (Nat.le_of_ble_eq_true rfl) c_length ⟨Nat.zero_le _, Nat.zero_le _⟩ (fun _ => ?_)
      refine r_icmp_ge (tgt := 150) dX4_goWord_60 (by decide) (fun h60 => by exfalso; omega) (fun h60 => ?_)
      refine r_aload_n dX4_goWord_63 rfl (by decide) ?_
      refine r_gi 7 dX4_goWord_64 flX4_40 sf2 (by decide) (by decide) rfl rfl tc_r7 ?_
      refine r_iconst dX4_goWord_67 (by decide) ?_
      refine r_icmp_ne (tgt := 150) dX4_goWord_68 (by decide) (fun h68 => by exfalso; omega) (fun h68 => ?_)
      refine r_ldcS dX4_goWord_71 rfl ?_
      refine r_iload_n dX4_goWord_73 rfl ?_
      refine r_cvS1 dX4_goWord_74 clX4_153 rfl (by decide) (Nat.le_of_ble_eq_true rfl) (c_charAt (by omega)) ⟨Nat.zero_le _, Nat.zero_le _⟩ (fun _ => ?_)
      refine r_istore dX4_goWord_77 rfl (by decide) st4 ?_
      refine r_iload dX4_goWord_79 rfl ?_
      refine r_bipush dX4_goWord_81 (by decide) (by decide) ?_
      refine r_icmp_eq (tgt := 120) dX4_goWord_83 (by decide) (fun h83 => ?_) (fun h83 => ?_)
      · refine r_iload_n dX4_goWord_120 rfl ?_
        refine r_aload_n dX4_goWord_121 rfl (by decide) ?_
        refine r_gi 5 dX4_goWord_122 flX4_34 sf2 (by decide) (by decide) rfl rfl tc_r5 ?_
        refine r_icmp_ne (tgt := 136) dX4_goWord_125 (by decide) (fun h125 => ?_) (fun h125 => ?_)
        · refine r_iinc dX4_goWord_136 rfl rfl (by decide) (w32_id (by omega)) st1 ?_
          refine r_aload_n dX4_goWord_139 rfl (by decide) ?_
          refine r_gi 6 dX4_goWord_140 flX4_47 sf2 (by decide) (by decide) rfl rfl tc_r6 ?_
          refine r_istore_n dX4_goWord_143 rfl (by decide) st2 ?_
          refine r_iinc dX4_goWord_144 rfl rfl (by decide) (w32_id (by omega)) st3 ?_
          refine r_goto (tgt := 54) dX4_goWord_147 (by decide) ?_
          refine wk4 ?_
          first | (rw [gw_c (by omega) (by omega) (by omega)] at ih9; exact ih9) | (rw [gw_x (by omega) (by omega) (fun q => by omega)] at ih9; exact ih9) | (rw [gw_w (by omega) (by omega) (by omega)] at ih9; exact ih9) | (rw [gw_n (by omega) (by omega) (by omega)] at ih9; exact ih9)
        · refine r_aload_n dX4_goWord_128 rfl (by decide) ?_
          refine r_iload_n dX4_goWord_129 rfl ?_
          refine r_pi 7 dX4_goWord_130 fpX4_40 sf2 (by decide) (by decide) rfl rfl ?_
          refine V.cm rfl tc_7 ?_
          refine r_goto (tgt := 144) dX4_goWord_133 (by decide) ?_
          refine r_iinc dX4_goWord_144 rfl rfl (by decide) (w32_id (by omega)) st3 ?_
          refine r_goto (tgt := 54) dX4_goWord_147 (by decide) ?_
          refine wk4 ?_
          first | (rw [gw_c (by omega) (by omega) (by omega)] at ih9; exact ih9) | (rw [gw_x (by omega) (by omega) (fun q => by omega)] at ih9; exact ih9) | (rw [gw_w (by omega) (by omega) (by omega)] at ih9; exact ih9) | (rw [gw_n (by omega) (by omega) (by omega)] at ih9; exact ih9)
      · refine r_iload_n dX4_goWord_86 rfl ?_
        refine r_if_lt (tgt := 115) dX4_goWord_87 (by decide) (fun h87 => ?_) (fun h87 => ?_)
        · refine r_iconst dX4_goWord_115 (by decide) ?_
          refine r_istore_n dX4_goWord_116 rfl (by decide) st2 ?_
          refine r_goto (tgt := 144) dX4_goWord_117 (by decide) ?_
          refine r_iinc dX4_goWord_144 rfl rfl (by decide) (w32_id (by omega)) st3 ?_
          refine r_goto (tgt := 54) dX4_goWord_147 (by decide) ?_
          refine wk4 ?_
          first | (rw [gw_c (by omega) (by omega) (by omega)] at ih9; exact ih9) | (rw [gw_x (by omega) (by omega) (fun q => by omega)] at ih9; exact ih9) | (rw [gw_w (by omega) (by omega) (by omega)] at ih9; exact ih9) | (rw [gw_n (by omega) (by omega) (by omega)] at ih9; exact ih9)
        · refine r_iload_n dX4_goWord_90 rfl ?_
          refine r_aload_n dX4_goWord_91 rfl (by decide) ?_
          refine r_gi 5 dX4_goWord_92 flX4_34 sf2 (by decide) (by decide) rfl rfl tc_r5 ?_
          refine r_icmp_ge (tgt := 115) dX4_goWord_95 (by decide) (fun h95 => ?_) (fun h95 => ?_)
          · refine r_iconst dX4_goWord_115 (by decide) ?_
            refine r_istore_n dX4_goWord_116 rfl (by decide) st2 ?_
            refine r_goto (tgt := 144) dX4_goWord_117 (by decide) ?_
            refine r_iinc dX4_goWord_144 rfl rfl (by decide) (w32_id (by omega)) st3 ?_
            refine r_goto (tgt := 54) dX4_goWord_147 (by decide) ?_
            refine wk4 ?_
            first | (rw [gw_c (by omega) (by omega) (by omega)] at ih9; exact ih9) | (rw [gw_x (by omega) (by omega) (fun q => by omega)] at ih9; exact ih9) | (rw [gw_w (by omega) (by omega) (by omega)] at ih9; exact ih9) | (rw [gw_n (by omega) (by omega) (by omega)] at ih9; exact ih9)
          · refine r_aload_n dX4_goWord_98 rfl (by decide) ?_
            refine r_getr (x := 3) dX4_goWord_99 flX4_18 sf2 (by decide) (by decide) rfl rfl ?_
            refine r_iload_n dX4_goWord_102 rfl ?_
            refine r_iald dX4_goWord_103 sf3 (by decide) (by omega) (by omega) (by decide) (tc_o (by omega)) ?_
            refine r_iload dX4_goWord_104 rfl ?_
            refine r_icmp_ne (tgt := 115) dX4_goWord_106 (by decide) (fun h106 => ?_) (fun h106 => ?_)
            · refine r_iconst dX4_goWord_115 (by decide) ?_
              refine r_istore_n dX4_goWord_116 rfl (by decide) st2 ?_
              refine r_goto (tgt := 144) dX4_goWord_117 (by decide) ?_
              refine r_iinc dX4_goWord_144 rfl rfl (by decide) (w32_id (by omega)) st3 ?_
              refine r_goto (tgt := 54) dX4_goWord_147 (by decide) ?_
              refine wk4 ?_
              first | (rw [gw_c (by omega) (by omega) (by omega)] at ih9; exact ih9) | (rw [gw_x (by omega) (by omega) (fun q => by omega)] at ih9; exact ih9) | (rw [gw_w (by omega) (by omega) (by omega)] at ih9; exact ih9) | (rw [gw_n (by omega) (by omega) (by omega)] at ih9; exact ih9)
            · refine r_iload_n dX4_goWord_109 rfl ?_
              refine r_iconst dX4_goWord_110 (by decide) ?_
              refine r_iadd dX4_goWord_111 (w32_id (by omega)) ?_
              refine r_goto (tgt := 116) dX4_goWord_112 (by decide) ?_
              refine r_istore_n dX4_goWord_116 rfl (by decide) st2 ?_
              refine r_goto (tgt := 144) dX4_goWord_117 (by decide) ?_
              refine r_iinc dX4_goWord_144 rfl rfl (by decide) (w32_id (by omega)) st3 ?_
              refine r_goto (tgt := 54) dX4_goWord_147 (by decide) ?_
              refine wk4 ?_
              first | (rw [gw_c (by omega) (by omega) (by omega)] at ih9; exact ih9) | (rw [gw_x (by omega) (by omega) (fun q => by omega)] at ih9; exact ih9) | (rw [gw_w (by omega) (by omega) (by omega)] at ih9; exact ih9) | (rw [gw_n (by omega) (by omega) (by omega)] at ih9; exact ih9)
    · rw [show gwT M st en = (gwS M st en i).1 from by unfold gwT; have e := gwS_e h1 (150 - i); rw [show i + (150 - i) = 150 by omega] at e; rw [e]]
      refine r_iload_n dX4_goWord_54 rfl ?_
      refine r_ldcS dX4_goWord_55 rfl ?_
      refine r_cvS0 dX4_goWord_57 clX4_148 rfl (by decide) (Nat.le_of_ble_eq_true rfl) c_length ⟨Nat.zero_le _, Nat.zero_le _⟩ (fun _ => ?_)
      refine r_icmp_ge (tgt := 150) dX4_goWord_60 (by decide) (fun h60 => by exfalso; omega) (fun h60 => ?_)
      refine r_aload_n dX4_goWord_63 rfl (by decide) ?_
      refine r_gi 7 dX4_goWord_64 flX4_40 sf2 (by decide) (by decide) rfl rfl tc_r7 ?_
      refine r_iconst dX4_goWord_67 (by decide) ?_
      refine r_icmp_ne (tgt := 150) dX4_goWord_68 (by decide) (fun h68 => ?_) (fun h68 => by exfalso; omega)
      refine r_ret0 dX4_goWord_150 rfl ?_
      exact ⟨rfl, rfl, rfl⟩
theorem c_goWord {x y z : Int} {M : Me} {n : Nat} (h0 : M 2 0 = (n : Int)) (hn : n ≤ 300) {st kd vl i : Int} (hi : 0 ≤ i ∧ i ≤ n) (hs : 0 ≤ st ∧ st ≤ 300) : Con kX4_goWord 4 0 0 [(1, 2)] (Sf x y z) (tcM M i st kd vl) (Ex none (Sf x y z) (tcM M (wlE M (n - i).toNat i) st (gwT M st (wlE M (n - i).toNat i)) vl)) := by
  have hw := wlE_b (M := M) (n - i).toNat i
  refine Con.ofV (al := [(1, 2), (9, 0), (9, 0), (9, 0), (9, 0)]) 4 (by decide) (Nat.le_of_ble_eq_true rfl) rfl ?_
  refine l_goWord1 h0 hn (n - i).toNat i hi.1 (by omega) ?_
  have h9 := l_goWord2 (x := x) (y := y) (z := z) (M := M) (vl := vl) (en := wlE M (n - i).toNat i) h0 hn hs (by omega) 150 0 rfl
  rw [show gwS M st (wlE M (n - i).toNat i) 0 = (1, 16, st) from rfl] at h9
  refine r_aload_n dX4_goWord_39 rfl (by decide) ?_
  refine r_iconst dX4_goWord_40 (by decide) ?_
  refine r_pi 7 dX4_goWord_41 fpX4_40 sf2 (by decide) (by decide) rfl rfl ?_
  refine V.cm rfl tc_7 ?_
  refine r_bipush dX4_goWord_44 (by decide) (by decide) ?_
  refine r_istore_n dX4_goWord_46 rfl (by decide) st1 ?_
  refine r_aload_n dX4_goWord_47 rfl (by decide) ?_
  refine r_gi 6 dX4_goWord_48 flX4_47 sf2 (by decide) (by decide) rfl rfl tc_r6 ?_
  refine r_istore_n dX4_goWord_51 rfl (by decide) st2 ?_
  refine r_iconst dX4_goWord_52 (by decide) ?_
  refine r_istore_n dX4_goWord_53 rfl (by decide) st3 ?_
  exact h9
set_option maxHeartbeats 2000000 in
theorem l_goSign {x y z : Int} {M : Me} {n : Nat} (h0 : M 2 0 = (n : Int)) (hn : n ≤ 300) {st kd vl s e i : Int} (hi : 0 ≤ i ∧ i ≤ 299) (he : e = 0 ∨ e = 1) : V kX4_goSign 0 0 1 none (Ex none (Sf x y z) (tcM M (i + 1 + e) st (sgC s e) vl)) 62 [(1, 2), (0, s), (9, 0)] [(0, e)] (Sf x y z) (tcM M (i + 1) st kd vl) 0 0 := by
  rcases he with he | he <;> subst he
  · skip
    refine r_istore_n dX4_goSign_62 rfl (by decide) st2 ?_
    refine r_aload_n dX4_goSign_63 rfl (by decide) ?_
    refine r_dup dX4_goSign_64 (Nat.ne_of_beq_eq_false rfl) ?_
    refine r_gi 5 dX4_goSign_65 flX4_34 sf2 (by decide) (by decide) rfl rfl tc_r5 ?_
    refine r_iload_n dX4_goSign_68 rfl ?_
    refine r_if_eq (tgt := 76) dX4_goSign_69 (by decide) (fun h69 => ?_) (fun h69 => by exfalso; omega)
    refine r_iconst dX4_goSign_76 (by decide) ?_
    refine r_iadd dX4_goSign_77 (w32_id (by omega)) ?_
    refine r_pi 5 dX4_goSign_78 fpX4_34 sf2 (by decide) (by decide) rfl rfl ?_
    refine V.cm rfl tc_5 ?_
    refine r_iload_n dX4_goSign_81 rfl ?_
    rcases (show (s < 35 ∨ 62 < s) ∨ s = 35 ∨ s = 36 ∨ s = 37 ∨ s = 38 ∨ s = 39 ∨ s = 40 ∨ s = 41 ∨ s = 42 ∨ s = 43 ∨ s = 44 ∨ s = 45 ∨ s = 46 ∨ s = 47 ∨ s = 48 ∨ s = 49 ∨ s = 50 ∨ s = 51 ∨ s = 52 ∨ s = 53 ∨ s = 54 ∨ s = 55 ∨ s = 56 ∨ s = 57 ∨ s = 58 ∨ s = 59 ∨ s = 60 ∨ s = 61 ∨ s = 62 by omega) with hsw | hsw | hsw | hsw | hsw | hsw | hsw | hsw | hsw | hsw | hsw | hsw | hsw | hsw | hsw | hsw | hsw | hsw | hsw | hsw | hsw | hsw | hsw | hsw | hsw | hsw | hsw | hsw | hsw
    · refine r_tabOut (tgt := 322) dX4_goSign_82 hsw (by decide) ?_
      refine r_aload_n dX4_goSign_322 rfl (by decide) ?_
      refine r_iconst dX4_goSign_323 (by decide) ?_
      refine r_pi 7 dX4_goSign_324 fpX4_40 sf2 (by decide) (by decide) rfl rfl ?_
      refine V.cm rfl tc_7 ?_
      refine r_ret0 dX4_goSign_327 rfl ?_
      first | (subst hsw; exact ⟨rfl, rfl, rfl⟩) | (refine ⟨rfl, rfl, ?_⟩; unfold sgC; rw [if_neg (by omega), if_neg (by omega), if_neg (by omega), if_neg (by omega), if_neg (by omega), if_neg (by omega), if_neg (by omega), if_neg (by omega), if_neg (by omega), if_neg (by omega), if_neg (by omega)])
    · refine r_tabEq (tgt := 313) dX4_goSign_82 hsw (by decide) (by decide) rfl (by decide) ?_
      refine r_aload_n dX4_goSign_313 rfl (by decide) ?_
      refine r_bipush dX4_goSign_314 (by decide) (by decide) ?_
      refine r_pi 7 dX4_goSign_316 fpX4_40 sf2 (by decide) (by decide) rfl rfl ?_
      refine V.cm rfl tc_7 ?_
      refine r_goto (tgt := 327) dX4_goSign_319 (by decide) ?_
      refine r_ret0 dX4_goSign_327 rfl ?_
      first | (subst hsw; exact ⟨rfl, rfl, rfl⟩) | (refine ⟨rfl, rfl, ?_⟩; unfold sgC; rw [if_neg (by omega), if_neg (by omega), if_neg (by omega), if_neg (by omega), if_neg (by omega), if_neg (by omega), if_neg (by omega), if_neg (by omega), if_neg (by omega), if_neg (by omega), if_neg (by omega)])
    · refine r_tabEq (tgt := 322) dX4_goSign_82 hsw (by decide) (by decide) rfl (by decide) ?_
      refine r_aload_n dX4_goSign_322 rfl (by decide) ?_
      refine r_iconst dX4_goSign_323 (by decide) ?_
      refine r_pi 7 dX4_goSign_324 fpX4_40 sf2 (by decide) (by decide) rfl rfl ?_
      refine V.cm rfl tc_7 ?_
      refine r_ret0 dX4_goSign_327 rfl ?_
      first | (subst hsw; exact ⟨rfl, rfl, rfl⟩) | (refine ⟨rfl, rfl, ?_⟩; unfold sgC; rw [if_neg (by omega), if_neg (by omega), if_neg (by omega), if_neg (by omega), if_neg (by omega), if_neg (by omega), if_neg (by omega), if_neg (by omega), if_neg (by omega), if_neg (by omega), if_neg (by omega)])
    · refine r_tabEq (tgt := 322) dX4_goSign_82 hsw (by decide) (by decide) rfl (by decide) ?_
      refine r_aload_n dX4_goSign_322 rfl (by decide) ?_
      refine r_iconst dX4_goSign_323 (by decide) ?_
      refine r_pi 7 dX4_goSign_324 fpX4_40 sf2 (by decide) (by decide) rfl rfl ?_
      refine V.cm rfl tc_7 ?_
      refine r_ret0 dX4_goSign_327 rfl ?_
      first | (subst hsw; exact ⟨rfl, rfl, rfl⟩) | (refine ⟨rfl, rfl, ?_⟩; unfold sgC; rw [if_neg (by omega), if_neg (by omega), if_neg (by omega), if_neg (by omega), if_neg (by omega), if_neg (by omega), if_neg (by omega), if_neg (by omega), if_neg (by omega), if_neg (by omega), if_neg (by omega)])
    · refine r_tabEq (tgt := 322) dX4_goSign_82 hsw (by decide) (by decide) rfl (by decide) ?_
      refine r_aload_n dX4_goSign_322 rfl (by decide) ?_
      refine r_iconst dX4_goSign_323 (by decide) ?_
      refine r_pi 7 dX4_goSign_324 fpX4_40 sf2 (by decide) (by decide) rfl rfl ?_
      refine V.cm rfl tc_7 ?_
      refine r_ret0 dX4_goSign_327 rfl ?_
      first | (subst hsw; exact ⟨rfl, rfl, rfl⟩) | (refine ⟨rfl, rfl, ?_⟩; unfold sgC; rw [if_neg (by omega), if_neg (by omega), if_neg (by omega), if_neg (by omega), if_neg (by omega), if_neg (by omega), if_neg (by omega), if_neg (by omega), if_neg (by omega), if_neg (by omega), if_neg (by omega)])
    · refine r_tabEq (tgt := 322) dX4_goSign_82 hsw (by decide) (by decide) rfl (by decide) ?_
      refine r_aload_n dX4_goSign_322 rfl (by decide) ?_
      refine r_iconst dX4_goSign_323 (by decide) ?_
      refine r_pi 7 dX4_goSign_324 fpX4_40 sf2 (by decide) (by decide) rfl rfl ?_
      refine V.cm rfl tc_7 ?_
      refine r_ret0 dX4_goSign_327 rfl ?_
      first | (subst hsw; exact ⟨rfl, rfl, rfl⟩) | (refine ⟨rfl, rfl, ?_⟩; unfold sgC; rw [if_neg (by omega), if_neg (by omega), if_neg (by omega), if_neg (by omega), if_neg (by omega), if_neg (by omega), if_neg (by omega), if_neg (by omega), if_neg (by omega), if_neg (by omega), if_neg (by omega)])
    · refine r_tabEq (tgt := 208) dX4_goSign_82 hsw (by decide) (by decide) rfl (by decide) ?_
      refine r_aload_n dX4_goSign_208 rfl (by decide) ?_
      refine r_iconst dX4_goSign_209 (by decide) ?_
      refine r_pi 7 dX4_goSign_210 fpX4_40 sf2 (by decide) (by decide) rfl rfl ?_
      refine V.cm rfl tc_7 ?_
      refine r_goto (tgt := 327) dX4_goSign_213 (by decide) ?_
      refine r_ret0 dX4_goSign_327 rfl ?_
      first | (subst hsw; exact ⟨rfl, rfl, rfl⟩) | (refine ⟨rfl, rfl, ?_⟩; unfold sgC; rw [if_neg (by omega), if_neg (by omega), if_neg (by omega), if_neg (by omega), if_neg (by omega), if_neg (by omega), if_neg (by omega), if_neg (by omega), if_neg (by omega), if_neg (by omega), if_neg (by omega)])
    · refine r_tabEq (tgt := 216) dX4_goSign_82 hsw (by decide) (by decide) rfl (by decide) ?_
      refine r_aload_n dX4_goSign_216 rfl (by decide) ?_
      refine r_iconst dX4_goSign_217 (by decide) ?_
      refine r_pi 7 dX4_goSign_218 fpX4_40 sf2 (by decide) (by decide) rfl rfl ?_
      refine V.cm rfl tc_7 ?_
      refine r_goto (tgt := 327) dX4_goSign_221 (by decide) ?_
      refine r_ret0 dX4_goSign_327 rfl ?_
      first | (subst hsw; exact ⟨rfl, rfl, rfl⟩) | (refine ⟨rfl, rfl, ?_⟩; unfold sgC; rw [if_neg (by omega), if_neg (by omega), if_neg (by omega), if_neg (by omega), if_neg (by omega), if_neg (by omega), if_neg (by omega), if_neg (by omega), if_neg (by omega), if_neg (by omega), if_neg (by omega)])
    · refine r_tabEq (tgt := 250) dX4_goSign_82 hsw (by decide) (by decide) rfl (by decide) ?_
      refine r_aload_n dX4_goSign_250 rfl (by decide) ?_
      refine r_bipush dX4_goSign_251 (by decide) (by decide) ?_
      refine r_pi 7 dX4_goSign_253 fpX4_40 sf2 (by decide) (by decide) rfl rfl ?_
      refine V.cm rfl tc_7 ?_
      refine r_goto (tgt := 327) dX4_goSign_256 (by decide) ?_
      refine r_ret0 dX4_goSign_327 rfl ?_
      first | (subst hsw; exact ⟨rfl, rfl, rfl⟩) | (refine ⟨rfl, rfl, ?_⟩; unfold sgC; rw [if_neg (by omega), if_neg (by omega), if_neg (by omega), if_neg (by omega), if_neg (by omega), if_neg (by omega), if_neg (by omega), if_neg (by omega), if_neg (by omega), if_neg (by omega), if_neg (by omega)])
    · refine r_tabEq (tgt := 232) dX4_goSign_82 hsw (by decide) (by decide) rfl (by decide) ?_
      refine r_aload_n dX4_goSign_232 rfl (by decide) ?_
      refine r_bipush dX4_goSign_233 (by decide) (by decide) ?_
      refine r_pi 7 dX4_goSign_235 fpX4_40 sf2 (by decide) (by decide) rfl rfl ?_
      refine V.cm rfl tc_7 ?_
      refine r_goto (tgt := 327) dX4_goSign_238 (by decide) ?_
      refine r_ret0 dX4_goSign_327 rfl ?_
      first | (subst hsw; exact ⟨rfl, rfl, rfl⟩) | (refine ⟨rfl, rfl, ?_⟩; unfold sgC; rw [if_neg (by omega), if_neg (by omega), if_neg (by omega), if_neg (by omega), if_neg (by omega), if_neg (by omega), if_neg (by omega), if_neg (by omega), if_neg (by omega), if_neg (by omega), if_neg (by omega)])
    · refine r_tabEq (tgt := 322) dX4_goSign_82 hsw (by decide) (by decide) rfl (by decide) ?_
      refine r_aload_n dX4_goSign_322 rfl (by decide) ?_
      refine r_iconst dX4_goSign_323 (by decide) ?_
      refine r_pi 7 dX4_goSign_324 fpX4_40 sf2 (by decide) (by decide) rfl rfl ?_
      refine V.cm rfl tc_7 ?_
      refine r_ret0 dX4_goSign_327 rfl ?_
      first | (subst hsw; exact ⟨rfl, rfl, rfl⟩) | (refine ⟨rfl, rfl, ?_⟩; unfold sgC; rw [if_neg (by omega), if_neg (by omega), if_neg (by omega), if_neg (by omega), if_neg (by omega), if_neg (by omega), if_neg (by omega), if_neg (by omega), if_neg (by omega), if_neg (by omega), if_neg (by omega)])
    · refine r_tabEq (tgt := 241) dX4_goSign_82 hsw (by decide) (by decide) rfl (by decide) ?_
      refine r_aload_n dX4_goSign_241 rfl (by decide) ?_
      refine r_bipush dX4_goSign_242 (by decide) (by decide) ?_
      refine r_pi 7 dX4_goSign_244 fpX4_40 sf2 (by decide) (by decide) rfl rfl ?_
      refine V.cm rfl tc_7 ?_
      refine r_goto (tgt := 327) dX4_goSign_247 (by decide) ?_
      refine r_ret0 dX4_goSign_327 rfl ?_
      first | (subst hsw; exact ⟨rfl, rfl, rfl⟩) | (refine ⟨rfl, rfl, ?_⟩; unfold sgC; rw [if_neg (by omega), if_neg (by omega), if_neg (by omega), if_neg (by omega), if_neg (by omega), if_neg (by omega), if_neg (by omega), if_neg (by omega), if_neg (by omega), if_neg (by omega), if_neg (by omega)])
    · refine r_tabEq (tgt := 322) dX4_goSign_82 hsw (by decide) (by decide) rfl (by decide) ?_
      refine r_aload_n dX4_goSign_322 rfl (by decide) ?_
      refine r_iconst dX4_goSign_323 (by decide) ?_
      refine r_pi 7 dX4_goSign_324 fpX4_40 sf2 (by decide) (by decide) rfl rfl ?_
      refine V.cm rfl tc_7 ?_
      refine r_ret0 dX4_goSign_327 rfl ?_
      first | (subst hsw; exact ⟨rfl, rfl, rfl⟩) | (refine ⟨rfl, rfl, ?_⟩; unfold sgC; rw [if_neg (by omega), if_neg (by omega), if_neg (by omega), if_neg (by omega), if_neg (by omega), if_neg (by omega), if_neg (by omega), if_neg (by omega), if_neg (by omega), if_neg (by omega), if_neg (by omega)])
    · refine r_tabEq (tgt := 259) dX4_goSign_82 hsw (by decide) (by decide) rfl (by decide) ?_
      refine r_aload_n dX4_goSign_259 rfl (by decide) ?_
      refine r_bipush dX4_goSign_260 (by decide) (by decide) ?_
      refine r_pi 7 dX4_goSign_262 fpX4_40 sf2 (by decide) (by decide) rfl rfl ?_
      refine V.cm rfl tc_7 ?_
      refine r_goto (tgt := 327) dX4_goSign_265 (by decide) ?_
      refine r_ret0 dX4_goSign_327 rfl ?_
      first | (subst hsw; exact ⟨rfl, rfl, rfl⟩) | (refine ⟨rfl, rfl, ?_⟩; unfold sgC; rw [if_neg (by omega), if_neg (by omega), if_neg (by omega), if_neg (by omega), if_neg (by omega), if_neg (by omega), if_neg (by omega), if_neg (by omega), if_neg (by omega), if_neg (by omega), if_neg (by omega)])
    · refine r_tabEq (tgt := 322) dX4_goSign_82 hsw (by decide) (by decide) rfl (by decide) ?_
      refine r_aload_n dX4_goSign_322 rfl (by decide) ?_
      refine r_iconst dX4_goSign_323 (by decide) ?_
      refine r_pi 7 dX4_goSign_324 fpX4_40 sf2 (by decide) (by decide) rfl rfl ?_
      refine V.cm rfl tc_7 ?_
      refine r_ret0 dX4_goSign_327 rfl ?_
      first | (subst hsw; exact ⟨rfl, rfl, rfl⟩) | (refine ⟨rfl, rfl, ?_⟩; unfold sgC; rw [if_neg (by omega), if_neg (by omega), if_neg (by omega), if_neg (by omega), if_neg (by omega), if_neg (by omega), if_neg (by omega), if_neg (by omega), if_neg (by omega), if_neg (by omega), if_neg (by omega)])
    · refine r_tabEq (tgt := 322) dX4_goSign_82 hsw (by decide) (by decide) rfl (by decide) ?_
      refine r_aload_n dX4_goSign_322 rfl (by decide) ?_
      refine r_iconst dX4_goSign_323 (by decide) ?_
      refine r_pi 7 dX4_goSign_324 fpX4_40 sf2 (by decide) (by decide) rfl rfl ?_
      refine V.cm rfl tc_7 ?_
      refine r_ret0 dX4_goSign_327 rfl ?_
      first | (subst hsw; exact ⟨rfl, rfl, rfl⟩) | (refine ⟨rfl, rfl, ?_⟩; unfold sgC; rw [if_neg (by omega), if_neg (by omega), if_neg (by omega), if_neg (by omega), if_neg (by omega), if_neg (by omega), if_neg (by omega), if_neg (by omega), if_neg (by omega), if_neg (by omega), if_neg (by omega)])
    · refine r_tabEq (tgt := 322) dX4_goSign_82 hsw (by decide) (by decide) rfl (by decide) ?_
      refine r_aload_n dX4_goSign_322 rfl (by decide) ?_
      refine r_iconst dX4_goSign_323 (by decide) ?_
      refine r_pi 7 dX4_goSign_324 fpX4_40 sf2 (by decide) (by decide) rfl rfl ?_
      refine V.cm rfl tc_7 ?_
      refine r_ret0 dX4_goSign_327 rfl ?_
      first | (subst hsw; exact ⟨rfl, rfl, rfl⟩) | (refine ⟨rfl, rfl, ?_⟩; unfold sgC; rw [if_neg (by omega), if_neg (by omega), if_neg (by omega), if_neg (by omega), if_neg (by omega), if_neg (by omega), if_neg (by omega), if_neg (by omega), if_neg (by omega), if_neg (by omega), if_neg (by omega)])
    · refine r_tabEq (tgt := 322) dX4_goSign_82 hsw (by decide) (by decide) rfl (by decide) ?_
      refine r_aload_n dX4_goSign_322 rfl (by decide) ?_
      refine r_iconst dX4_goSign_323 (by decide) ?_
      refine r_pi 7 dX4_goSign_324 fpX4_40 sf2 (by decide) (by decide) rfl rfl ?_
      refine V.cm rfl tc_7 ?_
      refine r_ret0 dX4_goSign_327 rfl ?_
      first | (subst hsw; exact ⟨rfl, rfl, rfl⟩) | (refine ⟨rfl, rfl, ?_⟩; unfold sgC; rw [if_neg (by omega), if_neg (by omega), if_neg (by omega), if_neg (by omega), if_neg (by omega), if_neg (by omega), if_neg (by omega), if_neg (by omega), if_neg (by omega), if_neg (by omega), if_neg (by omega)])
    · refine r_tabEq (tgt := 322) dX4_goSign_82 hsw (by decide) (by decide) rfl (by decide) ?_
      refine r_aload_n dX4_goSign_322 rfl (by decide) ?_
      refine r_iconst dX4_goSign_323 (by decide) ?_
      refine r_pi 7 dX4_goSign_324 fpX4_40 sf2 (by decide) (by decide) rfl rfl ?_
      refine V.cm rfl tc_7 ?_
      refine r_ret0 dX4_goSign_327 rfl ?_
      first | (subst hsw; exact ⟨rfl, rfl, rfl⟩) | (refine ⟨rfl, rfl, ?_⟩; unfold sgC; rw [if_neg (by omega), if_neg (by omega), if_neg (by omega), if_neg (by omega), if_neg (by omega), if_neg (by omega), if_neg (by omega), if_neg (by omega), if_neg (by omega), if_neg (by omega), if_neg (by omega)])
    · refine r_tabEq (tgt := 322) dX4_goSign_82 hsw (by decide) (by decide) rfl (by decide) ?_
      refine r_aload_n dX4_goSign_322 rfl (by decide) ?_
      refine r_iconst dX4_goSign_323 (by decide) ?_
      refine r_pi 7 dX4_goSign_324 fpX4_40 sf2 (by decide) (by decide) rfl rfl ?_
      refine V.cm rfl tc_7 ?_
      refine r_ret0 dX4_goSign_327 rfl ?_
      first | (subst hsw; exact ⟨rfl, rfl, rfl⟩) | (refine ⟨rfl, rfl, ?_⟩; unfold sgC; rw [if_neg (by omega), if_neg (by omega), if_neg (by omega), if_neg (by omega), if_neg (by omega), if_neg (by omega), if_neg (by omega), if_neg (by omega), if_neg (by omega), if_neg (by omega), if_neg (by omega)])
    · refine r_tabEq (tgt := 322) dX4_goSign_82 hsw (by decide) (by decide) rfl (by decide) ?_
      refine r_aload_n dX4_goSign_322 rfl (by decide) ?_
      refine r_iconst dX4_goSign_323 (by decide) ?_
      refine r_pi 7 dX4_goSign_324 fpX4_40 sf2 (by decide) (by decide) rfl rfl ?_
      refine V.cm rfl tc_7 ?_
      refine r_ret0 dX4_goSign_327 rfl ?_
      first | (subst hsw; exact ⟨rfl, rfl, rfl⟩) | (refine ⟨rfl, rfl, ?_⟩; unfold sgC; rw [if_neg (by omega), if_neg (by omega), if_neg (by omega), if_neg (by omega), if_neg (by omega), if_neg (by omega), if_neg (by omega), if_neg (by omega), if_neg (by omega), if_neg (by omega), if_neg (by omega)])
    · refine r_tabEq (tgt := 322) dX4_goSign_82 hsw (by decide) (by decide) rfl (by decide) ?_
      refine r_aload_n dX4_goSign_322 rfl (by decide) ?_
      refine r_iconst dX4_goSign_323 (by decide) ?_
      refine r_pi 7 dX4_goSign_324 fpX4_40 sf2 (by decide) (by decide) rfl rfl ?_
      refine V.cm rfl tc_7 ?_
      refine r_ret0 dX4_goSign_327 rfl ?_
      first | (subst hsw; exact ⟨rfl, rfl, rfl⟩) | (refine ⟨rfl, rfl, ?_⟩; unfold sgC; rw [if_neg (by omega), if_neg (by omega), if_neg (by omega), if_neg (by omega), if_neg (by omega), if_neg (by omega), if_neg (by omega), if_neg (by omega), if_neg (by omega), if_neg (by omega), if_neg (by omega)])
    · refine r_tabEq (tgt := 322) dX4_goSign_82 hsw (by decide) (by decide) rfl (by decide) ?_
      refine r_aload_n dX4_goSign_322 rfl (by decide) ?_
      refine r_iconst dX4_goSign_323 (by decide) ?_
      refine r_pi 7 dX4_goSign_324 fpX4_40 sf2 (by decide) (by decide) rfl rfl ?_
      refine V.cm rfl tc_7 ?_
      refine r_ret0 dX4_goSign_327 rfl ?_
      first | (subst hsw; exact ⟨rfl, rfl, rfl⟩) | (refine ⟨rfl, rfl, ?_⟩; unfold sgC; rw [if_neg (by omega), if_neg (by omega), if_neg (by omega), if_neg (by omega), if_neg (by omega), if_neg (by omega), if_neg (by omega), if_neg (by omega), if_neg (by omega), if_neg (by omega), if_neg (by omega)])
    · refine r_tabEq (tgt := 322) dX4_goSign_82 hsw (by decide) (by decide) rfl (by decide) ?_
      refine r_aload_n dX4_goSign_322 rfl (by decide) ?_
      refine r_iconst dX4_goSign_323 (by decide) ?_
      refine r_pi 7 dX4_goSign_324 fpX4_40 sf2 (by decide) (by decide) rfl rfl ?_
      refine V.cm rfl tc_7 ?_
      refine r_ret0 dX4_goSign_327 rfl ?_
      first | (subst hsw; exact ⟨rfl, rfl, rfl⟩) | (refine ⟨rfl, rfl, ?_⟩; unfold sgC; rw [if_neg (by omega), if_neg (by omega), if_neg (by omega), if_neg (by omega), if_neg (by omega), if_neg (by omega), if_neg (by omega), if_neg (by omega), if_neg (by omega), if_neg (by omega), if_neg (by omega)])
    · refine r_tabEq (tgt := 322) dX4_goSign_82 hsw (by decide) (by decide) rfl (by decide) ?_
      refine r_aload_n dX4_goSign_322 rfl (by decide) ?_
      refine r_iconst dX4_goSign_323 (by decide) ?_
      refine r_pi 7 dX4_goSign_324 fpX4_40 sf2 (by decide) (by decide) rfl rfl ?_
      refine V.cm rfl tc_7 ?_
      refine r_ret0 dX4_goSign_327 rfl ?_
      first | (subst hsw; exact ⟨rfl, rfl, rfl⟩) | (refine ⟨rfl, rfl, ?_⟩; unfold sgC; rw [if_neg (by omega), if_neg (by omega), if_neg (by omega), if_neg (by omega), if_neg (by omega), if_neg (by omega), if_neg (by omega), if_neg (by omega), if_neg (by omega), if_neg (by omega), if_neg (by omega)])
    · refine r_tabEq (tgt := 224) dX4_goSign_82 hsw (by decide) (by decide) rfl (by decide) ?_
      refine r_aload_n dX4_goSign_224 rfl (by decide) ?_
      refine r_iconst dX4_goSign_225 (by decide) ?_
      refine r_pi 7 dX4_goSign_226 fpX4_40 sf2 (by decide) (by decide) rfl rfl ?_
      refine V.cm rfl tc_7 ?_
      refine r_goto (tgt := 327) dX4_goSign_229 (by decide) ?_
      refine r_ret0 dX4_goSign_327 rfl ?_
      first | (subst hsw; exact ⟨rfl, rfl, rfl⟩) | (refine ⟨rfl, rfl, ?_⟩; unfold sgC; rw [if_neg (by omega), if_neg (by omega), if_neg (by omega), if_neg (by omega), if_neg (by omega), if_neg (by omega), if_neg (by omega), if_neg (by omega), if_neg (by omega), if_neg (by omega), if_neg (by omega)])
    · refine r_tabEq (tgt := 268) dX4_goSign_82 hsw (by decide) (by decide) rfl (by decide) ?_
      refine r_aload_n dX4_goSign_268 rfl (by decide) ?_
      refine r_iload_n dX4_goSign_269 rfl ?_
      refine r_if_eq (tgt := 278) dX4_goSign_270 (by decide) (fun h270 => ?_) (fun h270 => by exfalso; omega)
      refine r_bipush dX4_goSign_278 (by decide) (by decide) ?_
      refine r_pi 7 dX4_goSign_280 fpX4_40 sf2 (by decide) (by decide) rfl rfl ?_
      refine V.cm rfl tc_7 ?_
      refine r_goto (tgt := 327) dX4_goSign_283 (by decide) ?_
      refine r_ret0 dX4_goSign_327 rfl ?_
      first | (subst hsw; exact ⟨rfl, rfl, rfl⟩) | (refine ⟨rfl, rfl, ?_⟩; unfold sgC; rw [if_neg (by omega), if_neg (by omega), if_neg (by omega), if_neg (by omega), if_neg (by omega), if_neg (by omega), if_neg (by omega), if_neg (by omega), if_neg (by omega), if_neg (by omega), if_neg (by omega)])
    · refine r_tabEq (tgt := 304) dX4_goSign_82 hsw (by decide) (by decide) rfl (by decide) ?_
      refine r_aload_n dX4_goSign_304 rfl (by decide) ?_
      refine r_bipush dX4_goSign_305 (by decide) (by decide) ?_
      refine r_pi 7 dX4_goSign_307 fpX4_40 sf2 (by decide) (by decide) rfl rfl ?_
      refine V.cm rfl tc_7 ?_
      refine r_goto (tgt := 327) dX4_goSign_310 (by decide) ?_
      refine r_ret0 dX4_goSign_327 rfl ?_
      first | (subst hsw; exact ⟨rfl, rfl, rfl⟩) | (refine ⟨rfl, rfl, ?_⟩; unfold sgC; rw [if_neg (by omega), if_neg (by omega), if_neg (by omega), if_neg (by omega), if_neg (by omega), if_neg (by omega), if_neg (by omega), if_neg (by omega), if_neg (by omega), if_neg (by omega), if_neg (by omega)])
    · refine r_tabEq (tgt := 286) dX4_goSign_82 hsw (by decide) (by decide) rfl (by decide) ?_
      refine r_aload_n dX4_goSign_286 rfl (by decide) ?_
      refine r_iload_n dX4_goSign_287 rfl ?_
      refine r_if_eq (tgt := 296) dX4_goSign_288 (by decide) (fun h288 => ?_) (fun h288 => by exfalso; omega)
      refine r_bipush dX4_goSign_296 (by decide) (by decide) ?_
      refine r_pi 7 dX4_goSign_298 fpX4_40 sf2 (by decide) (by decide) rfl rfl ?_
      refine V.cm rfl tc_7 ?_
      refine r_goto (tgt := 327) dX4_goSign_301 (by decide) ?_
      refine r_ret0 dX4_goSign_327 rfl ?_
      first | (subst hsw; exact ⟨rfl, rfl, rfl⟩) | (refine ⟨rfl, rfl, ?_⟩; unfold sgC; rw [if_neg (by omega), if_neg (by omega), if_neg (by omega), if_neg (by omega), if_neg (by omega), if_neg (by omega), if_neg (by omega), if_neg (by omega), if_neg (by omega), if_neg (by omega), if_neg (by omega)])
  · skip
    refine r_istore_n dX4_goSign_62 rfl (by decide) st2 ?_
    refine r_aload_n dX4_goSign_63 rfl (by decide) ?_
    refine r_dup dX4_goSign_64 (Nat.ne_of_beq_eq_false rfl) ?_
    refine r_gi 5 dX4_goSign_65 flX4_34 sf2 (by decide) (by decide) rfl rfl tc_r5 ?_
    refine r_iload_n dX4_goSign_68 rfl ?_
    refine r_if_eq (tgt := 76) dX4_goSign_69 (by decide) (fun h69 => by exfalso; omega) (fun h69 => ?_)
    refine r_iconst dX4_goSign_72 (by decide) ?_
    refine r_goto (tgt := 77) dX4_goSign_73 (by decide) ?_
    refine r_iadd dX4_goSign_77 (w32_id (by omega)) ?_
    refine r_pi 5 dX4_goSign_78 fpX4_34 sf2 (by decide) (by decide) rfl rfl ?_
    refine V.cm rfl tc_5 ?_
    refine r_iload_n dX4_goSign_81 rfl ?_
    rcases (show (s < 35 ∨ 62 < s) ∨ s = 35 ∨ s = 36 ∨ s = 37 ∨ s = 38 ∨ s = 39 ∨ s = 40 ∨ s = 41 ∨ s = 42 ∨ s = 43 ∨ s = 44 ∨ s = 45 ∨ s = 46 ∨ s = 47 ∨ s = 48 ∨ s = 49 ∨ s = 50 ∨ s = 51 ∨ s = 52 ∨ s = 53 ∨ s = 54 ∨ s = 55 ∨ s = 56 ∨ s = 57 ∨ s = 58 ∨ s = 59 ∨ s = 60 ∨ s = 61 ∨ s = 62 by omega) with hsw | hsw | hsw | hsw | hsw | hsw | hsw | hsw | hsw | hsw | hsw | hsw | hsw | hsw | hsw | hsw | hsw | hsw | hsw | hsw | hsw | hsw | hsw | hsw | hsw | hsw | hsw | hsw | hsw
    · refine r_tabOut (tgt := 322) dX4_goSign_82 hsw (by decide) ?_
      refine r_aload_n dX4_goSign_322 rfl (by decide) ?_
      refine r_iconst dX4_goSign_323 (by decide) ?_
      refine r_pi 7 dX4_goSign_324 fpX4_40 sf2 (by decide) (by decide) rfl rfl ?_
      refine V.cm rfl tc_7 ?_
      refine r_ret0 dX4_goSign_327 rfl ?_
      first | (subst hsw; exact ⟨rfl, rfl, rfl⟩) | (refine ⟨rfl, rfl, ?_⟩; unfold sgC; rw [if_neg (by omega), if_neg (by omega), if_neg (by omega), if_neg (by omega), if_neg (by omega), if_neg (by omega), if_neg (by omega), if_neg (by omega), if_neg (by omega), if_neg (by omega), if_neg (by omega)])
    · refine r_tabEq (tgt := 313) dX4_goSign_82 hsw (by decide) (by decide) rfl (by decide) ?_
      refine r_aload_n dX4_goSign_313 rfl (by decide) ?_
      refine r_bipush dX4_goSign_314 (by decide) (by decide) ?_
      refine r_pi 7 dX4_goSign_316 fpX4_40 sf2 (by decide) (by decide) rfl rfl ?_
      refine V.cm rfl tc_7 ?_
      refine r_goto (tgt := 327) dX4_goSign_319 (by decide) ?_
      refine r_ret0 dX4_goSign_327 rfl ?_
      first | (subst hsw; exact ⟨rfl, rfl, rfl⟩) | (refine ⟨rfl, rfl, ?_⟩; unfold sgC; rw [if_neg (by omega), if_neg (by omega), if_neg (by omega), if_neg (by omega), if_neg (by omega), if_neg (by omega), if_neg (by omega), if_neg (by omega), if_neg (by omega), if_neg (by omega), if_neg (by omega)])
    · refine r_tabEq (tgt := 322) dX4_goSign_82 hsw (by decide) (by decide) rfl (by decide) ?_
      refine r_aload_n dX4_goSign_322 rfl (by decide) ?_
      refine r_iconst dX4_goSign_323 (by decide) ?_
      refine r_pi 7 dX4_goSign_324 fpX4_40 sf2 (by decide) (by decide) rfl rfl ?_
      refine V.cm rfl tc_7 ?_
      refine r_ret0 dX4_goSign_327 rfl ?_
      first | (subst hsw; exact ⟨rfl, rfl, rfl⟩) | (refine ⟨rfl, rfl, ?_⟩; unfold sgC; rw [if_neg (by omega), if_neg (by omega), if_neg (by omega), if_neg (by omega), if_neg (by omega), if_neg (by omega), if_neg (by omega), if_neg (by omega), if_neg (by omega), if_neg (by omega), if_neg (by omega)])
    · refine r_tabEq (tgt := 322) dX4_goSign_82 hsw (by decide) (by decide) rfl (by decide) ?_
      refine r_aload_n dX4_goSign_322 rfl (by decide) ?_
      refine r_iconst dX4_goSign_323 (by decide) ?_
      refine r_pi 7 dX4_goSign_324 fpX4_40 sf2 (by decide) (by decide) rfl rfl ?_
      refine V.cm rfl tc_7 ?_
      refine r_ret0 dX4_goSign_327 rfl ?_
      first | (subst hsw; exact ⟨rfl, rfl, rfl⟩) | (refine ⟨rfl, rfl, ?_⟩; unfold sgC; rw [if_neg (by omega), if_neg (by omega), if_neg (by omega), if_neg (by omega), if_neg (by omega), if_neg (by omega), if_neg (by omega), if_neg (by omega), if_neg (by omega), if_neg (by omega), if_neg (by omega)])
    · refine r_tabEq (tgt := 322) dX4_goSign_82 hsw (by decide) (by decide) rfl (by decide) ?_
      refine r_aload_n dX4_goSign_322 rfl (by decide) ?_
      refine r_iconst dX4_goSign_323 (by decide) ?_
      refine r_pi 7 dX4_goSign_324 fpX4_40 sf2 (by decide) (by decide) rfl rfl ?_
      refine V.cm rfl tc_7 ?_
      refine r_ret0 dX4_goSign_327 rfl ?_
      first | (subst hsw; exact ⟨rfl, rfl, rfl⟩) | (refine ⟨rfl, rfl, ?_⟩; unfold sgC; rw [if_neg (by omega), if_neg (by omega), if_neg (by omega), if_neg (by omega), if_neg (by omega), if_neg (by omega), if_neg (by omega), if_neg (by omega), if_neg (by omega), if_neg (by omega), if_neg (by omega)])
    · refine r_tabEq (tgt := 322) dX4_goSign_82 hsw (by decide) (by decide) rfl (by decide) ?_
      refine r_aload_n dX4_goSign_322 rfl (by decide) ?_
      refine r_iconst dX4_goSign_323 (by decide) ?_
      refine r_pi 7 dX4_goSign_324 fpX4_40 sf2 (by decide) (by decide) rfl rfl ?_
      refine V.cm rfl tc_7 ?_
      refine r_ret0 dX4_goSign_327 rfl ?_
      first | (subst hsw; exact ⟨rfl, rfl, rfl⟩) | (refine ⟨rfl, rfl, ?_⟩; unfold sgC; rw [if_neg (by omega), if_neg (by omega), if_neg (by omega), if_neg (by omega), if_neg (by omega), if_neg (by omega), if_neg (by omega), if_neg (by omega), if_neg (by omega), if_neg (by omega), if_neg (by omega)])
    · refine r_tabEq (tgt := 208) dX4_goSign_82 hsw (by decide) (by decide) rfl (by decide) ?_
      refine r_aload_n dX4_goSign_208 rfl (by decide) ?_
      refine r_iconst dX4_goSign_209 (by decide) ?_
      refine r_pi 7 dX4_goSign_210 fpX4_40 sf2 (by decide) (by decide) rfl rfl ?_
      refine V.cm rfl tc_7 ?_
      refine r_goto (tgt := 327) dX4_goSign_213 (by decide) ?_
      refine r_ret0 dX4_goSign_327 rfl ?_
      first | (subst hsw; exact ⟨rfl, rfl, rfl⟩) | (refine ⟨rfl, rfl, ?_⟩; unfold sgC; rw [if_neg (by omega), if_neg (by omega), if_neg (by omega), if_neg (by omega), if_neg (by omega), if_neg (by omega), if_neg (by omega), if_neg (by omega), if_neg (by omega), if_neg (by omega), if_neg (by omega)])
    · refine r_tabEq (tgt := 216) dX4_goSign_82 hsw (by decide) (by decide) rfl (by decide) ?_
      refine r_aload_n dX4_goSign_216 rfl (by decide) ?_
      refine r_iconst dX4_goSign_217 (by decide) ?_
      refine r_pi 7 dX4_goSign_218 fpX4_40 sf2 (by decide) (by decide) rfl rfl ?_
      refine V.cm rfl tc_7 ?_
      refine r_goto (tgt := 327) dX4_goSign_221 (by decide) ?_
      refine r_ret0 dX4_goSign_327 rfl ?_
      first | (subst hsw; exact ⟨rfl, rfl, rfl⟩) | (refine ⟨rfl, rfl, ?_⟩; unfold sgC; rw [if_neg (by omega), if_neg (by omega), if_neg (by omega), if_neg (by omega), if_neg (by omega), if_neg (by omega), if_neg (by omega), if_neg (by omega), if_neg (by omega), if_neg (by omega), if_neg (by omega)])
    · refine r_tabEq (tgt := 250) dX4_goSign_82 hsw (by decide) (by decide) rfl (by decide) ?_
      refine r_aload_n dX4_goSign_250 rfl (by decide) ?_
      refine r_bipush dX4_goSign_251 (by decide) (by decide) ?_
      refine r_pi 7 dX4_goSign_253 fpX4_40 sf2 (by decide) (by decide) rfl rfl ?_
      refine V.cm rfl tc_7 ?_
      refine r_goto (tgt := 327) dX4_goSign_256 (by decide) ?_
      refine r_ret0 dX4_goSign_327 rfl ?_
      first | (subst hsw; exact ⟨rfl, rfl, rfl⟩) | (refine ⟨rfl, rfl, ?_⟩; unfold sgC; rw [if_neg (by omega), if_neg (by omega), if_neg (by omega), if_neg (by omega), if_neg (by omega), if_neg (by omega), if_neg (by omega), if_neg (by omega), if_neg (by omega), if_neg (by omega), if_neg (by omega)])
    · refine r_tabEq (tgt := 232) dX4_goSign_82 hsw (by decide) (by decide) rfl (by decide) ?_
      refine r_aload_n dX4_goSign_232 rfl (by decide) ?_
      refine r_bipush dX4_goSign_233 (by decide) (by decide) ?_
      refine r_pi 7 dX4_goSign_235 fpX4_40 sf2 (by decide) (by decide) rfl rfl ?_
      refine V.cm rfl tc_7 ?_
      refine r_goto (tgt := 327) dX4_goSign_238 (by decide) ?_
      refine r_ret0 dX4_goSign_327 rfl ?_
      first | (subst hsw; exact ⟨rfl, rfl, rfl⟩) | (refine ⟨rfl, rfl, ?_⟩; unfold sgC; rw [if_neg (by omega), if_neg (by omega), if_neg (by omega), if_neg (by omega), if_neg (by omega), if_neg (by omega), if_neg (by omega), if_neg (by omega), if_neg (by omega), if_neg (by omega), if_neg (by omega)])
    · refine r_tabEq (tgt := 322) dX4_goSign_82 hsw (by decide) (by decide) rfl (by decide) ?_
      refine r_aload_n dX4_goSign_322 rfl (by decide) ?_
      refine r_iconst dX4_goSign_323 (by decide) ?_
      refine r_pi 7 dX4_goSign_324 fpX4_40 sf2 (by decide) (by decide) rfl rfl ?_
      refine V.cm rfl tc_7 ?_
      refine r_ret0 dX4_goSign_327 rfl ?_
      first | (subst hsw; exact ⟨rfl, rfl, rfl⟩) | (refine ⟨rfl, rfl, ?_⟩; unfold sgC; rw [if_neg (by omega), if_neg (by omega), if_neg (by omega), if_neg (by omega), if_neg (by omega), if_neg (by omega), if_neg (by omega), if_neg (by omega), if_neg (by omega), if_neg (by omega), if_neg (by omega)])
    · refine r_tabEq (tgt := 241) dX4_goSign_82 hsw (by decide) (by decide) rfl (by decide) ?_
      refine r_aload_n dX4_goSign_241 rfl (by decide) ?_
      refine r_bipush dX4_goSign_242 (by decide) (by decide) ?_
      refine r_pi 7 dX4_goSign_244 fpX4_40 sf2 (by decide) (by decide) rfl rfl ?_
      refine V.cm rfl tc_7 ?_
      refine r_goto (tgt := 327) dX4_goSign_247 (by decide) ?_
      refine r_ret0 dX4_goSign_327 rfl ?_
      first | (subst hsw; exact ⟨rfl, rfl, rfl⟩) | (refine ⟨rfl, rfl, ?_⟩; unfold sgC; rw [if_neg (by omega), if_neg (by omega), if_neg (by omega), if_neg (by omega), if_neg (by omega), if_neg (by omega), if_neg (by omega), if_neg (by omega), if_neg (by omega), if_neg (by omega), if_neg (by omega)])
    · refine r_tabEq (tgt := 322) dX4_goSign_82 hsw (by decide) (by decide) rfl (by decide) ?_
      refine r_aload_n dX4_goSign_322 rfl (by decide) ?_
      refine r_iconst dX4_goSign_323 (by decide) ?_
      refine r_pi 7 dX4_goSign_324 fpX4_40 sf2 (by decide) (by decide) rfl rfl ?_
      refine V.cm rfl tc_7 ?_
      refine r_ret0 dX4_goSign_327 rfl ?_
      first | (subst hsw; exact ⟨rfl, rfl, rfl⟩) | (refine ⟨rfl, rfl, ?_⟩; unfold sgC; rw [if_neg (by omega), if_neg (by omega), if_neg (by omega), if_neg (by omega), if_neg (by omega), if_neg (by omega), if_neg (by omega), if_neg (by omega), if_neg (by omega), if_neg (by omega), if_neg (by omega)])
    · refine r_tabEq (tgt := 259) dX4_goSign_82 hsw (by decide) (by decide) rfl (by decide) ?_
      refine r_aload_n dX4_goSign_259 rfl (by decide) ?_
      refine r_bipush dX4_goSign_260 (by decide) (by decide) ?_
      refine r_pi 7 dX4_goSign_262 fpX4_40 sf2 (by decide) (by decide) rfl rfl ?_
      refine V.cm rfl tc_7 ?_
      refine r_goto (tgt := 327) dX4_goSign_265 (by decide) ?_
      refine r_ret0 dX4_goSign_327 rfl ?_
      first | (subst hsw; exact ⟨rfl, rfl, rfl⟩) | (refine ⟨rfl, rfl, ?_⟩; unfold sgC; rw [if_neg (by omega), if_neg (by omega), if_neg (by omega), if_neg (by omega), if_neg (by omega), if_neg (by omega), if_neg (by omega), if_neg (by omega), if_neg (by omega), if_neg (by omega), if_neg (by omega)])
    · refine r_tabEq (tgt := 322) dX4_goSign_82 hsw (by decide) (by decide) rfl (by decide) ?_
      refine r_aload_n dX4_goSign_322 rfl (by decide) ?_
      refine r_iconst dX4_goSign_323 (by decide) ?_
      refine r_pi 7 dX4_goSign_324 fpX4_40 sf2 (by decide) (by decide) rfl rfl ?_
      refine V.cm rfl tc_7 ?_
      refine r_ret0 dX4_goSign_327 rfl ?_
      first | (subst hsw; exact ⟨rfl, rfl, rfl⟩) | (refine ⟨rfl, rfl, ?_⟩; unfold sgC; rw [if_neg (by omega), if_neg (by omega), if_neg (by omega), if_neg (by omega), if_neg (by omega), if_neg (by omega), if_neg (by omega), if_neg (by omega), if_neg (by omega), if_neg (by omega), if_neg (by omega)])
    · refine r_tabEq (tgt := 322) dX4_goSign_82 hsw (by decide) (by decide) rfl (by decide) ?_
      refine r_aload_n dX4_goSign_322 rfl (by decide) ?_
      refine r_iconst dX4_goSign_323 (by decide) ?_
      refine r_pi 7 dX4_goSign_324 fpX4_40 sf2 (by decide) (by decide) rfl rfl ?_
      refine V.cm rfl tc_7 ?_
      refine r_ret0 dX4_goSign_327 rfl ?_
      first | (subst hsw; exact ⟨rfl, rfl, rfl⟩) | (refine ⟨rfl, rfl, ?_⟩; unfold sgC; rw [if_neg (by omega), if_neg (by omega), if_neg (by omega), if_neg (by omega), if_neg (by omega), if_neg (by omega), if_neg (by omega), if_neg (by omega), if_neg (by omega), if_neg (by omega), if_neg (by omega)])
    · refine r_tabEq (tgt := 322) dX4_goSign_82 hsw (by decide) (by decide) rfl (by decide) ?_
      refine r_aload_n dX4_goSign_322 rfl (by decide) ?_
      refine r_iconst dX4_goSign_323 (by decide) ?_
      refine r_pi 7 dX4_goSign_324 fpX4_40 sf2 (by decide) (by decide) rfl rfl ?_
      refine V.cm rfl tc_7 ?_
      refine r_ret0 dX4_goSign_327 rfl ?_
      first | (subst hsw; exact ⟨rfl, rfl, rfl⟩) | (refine ⟨rfl, rfl, ?_⟩; unfold sgC; rw [if_neg (by omega), if_neg (by omega), if_neg (by omega), if_neg (by omega), if_neg (by omega), if_neg (by omega), if_neg (by omega), if_neg (by omega), if_neg (by omega), if_neg (by omega), if_neg (by omega)])
    · refine r_tabEq (tgt := 322) dX4_goSign_82 hsw (by decide) (by decide) rfl (by decide) ?_
      refine r_aload_n dX4_goSign_322 rfl (by decide) ?_
      refine r_iconst dX4_goSign_323 (by decide) ?_
      refine r_pi 7 dX4_goSign_324 fpX4_40 sf2 (by decide) (by decide) rfl rfl ?_
      refine V.cm rfl tc_7 ?_
      refine r_ret0 dX4_goSign_327 rfl ?_
      first | (subst hsw; exact ⟨rfl, rfl, rfl⟩) | (refine ⟨rfl, rfl, ?_⟩; unfold sgC; rw [if_neg (by omega), if_neg (by omega), if_neg (by omega), if_neg (by omega), if_neg (by omega), if_neg (by omega), if_neg (by omega), if_neg (by omega), if_neg (by omega), if_neg (by omega), if_neg (by omega)])
    · refine r_tabEq (tgt := 322) dX4_goSign_82 hsw (by decide) (by decide) rfl (by decide) ?_
      refine r_aload_n dX4_goSign_322 rfl (by decide) ?_
      refine r_iconst dX4_goSign_323 (by decide) ?_
      refine r_pi 7 dX4_goSign_324 fpX4_40 sf2 (by decide) (by decide) rfl rfl ?_
      refine V.cm rfl tc_7 ?_
      refine r_ret0 dX4_goSign_327 rfl ?_
      first | (subst hsw; exact ⟨rfl, rfl, rfl⟩) | (refine ⟨rfl, rfl, ?_⟩; unfold sgC; rw [if_neg (by omega), if_neg (by omega), if_neg (by omega), if_neg (by omega), if_neg (by omega), if_neg (by omega), if_neg (by omega), if_neg (by omega), if_neg (by omega), if_neg (by omega), if_neg (by omega)])
    · refine r_tabEq (tgt := 322) dX4_goSign_82 hsw (by decide) (by decide) rfl (by decide) ?_
      refine r_aload_n dX4_goSign_322 rfl (by decide) ?_
      refine r_iconst dX4_goSign_323 (by decide) ?_
      refine r_pi 7 dX4_goSign_324 fpX4_40 sf2 (by decide) (by decide) rfl rfl ?_
      refine V.cm rfl tc_7 ?_
      refine r_ret0 dX4_goSign_327 rfl ?_
      first | (subst hsw; exact ⟨rfl, rfl, rfl⟩) | (refine ⟨rfl, rfl, ?_⟩; unfold sgC; rw [if_neg (by omega), if_neg (by omega), if_neg (by omega), if_neg (by omega), if_neg (by omega), if_neg (by omega), if_neg (by omega), if_neg (by omega), if_neg (by omega), if_neg (by omega), if_neg (by omega)])
    · refine r_tabEq (tgt := 322) dX4_goSign_82 hsw (by decide) (by decide) rfl (by decide) ?_
      refine r_aload_n dX4_goSign_322 rfl (by decide) ?_
      refine r_iconst dX4_goSign_323 (by decide) ?_
      refine r_pi 7 dX4_goSign_324 fpX4_40 sf2 (by decide) (by decide) rfl rfl ?_
      refine V.cm rfl tc_7 ?_
      refine r_ret0 dX4_goSign_327 rfl ?_
      first | (subst hsw; exact ⟨rfl, rfl, rfl⟩) | (refine ⟨rfl, rfl, ?_⟩; unfold sgC; rw [if_neg (by omega), if_neg (by omega), if_neg (by omega), if_neg (by omega), if_neg (by omega), if_neg (by omega), if_neg (by omega), if_neg (by omega), if_neg (by omega), if_neg (by omega), if_neg (by omega)])
    · refine r_tabEq (tgt := 322) dX4_goSign_82 hsw (by decide) (by decide) rfl (by decide) ?_
      refine r_aload_n dX4_goSign_322 rfl (by decide) ?_
      refine r_iconst dX4_goSign_323 (by decide) ?_
      refine r_pi 7 dX4_goSign_324 fpX4_40 sf2 (by decide) (by decide) rfl rfl ?_
      refine V.cm rfl tc_7 ?_
      refine r_ret0 dX4_goSign_327 rfl ?_
      first | (subst hsw; exact ⟨rfl, rfl, rfl⟩) | (refine ⟨rfl, rfl, ?_⟩; unfold sgC; rw [if_neg (by omega), if_neg (by omega), if_neg (by omega), if_neg (by omega), if_neg (by omega), if_neg (by omega), if_neg (by omega), if_neg (by omega), if_neg (by omega), if_neg (by omega), if_neg (by omega)])
    · refine r_tabEq (tgt := 322) dX4_goSign_82 hsw (by decide) (by decide) rfl (by decide) ?_
      refine r_aload_n dX4_goSign_322 rfl (by decide) ?_
      refine r_iconst dX4_goSign_323 (by decide) ?_
      refine r_pi 7 dX4_goSign_324 fpX4_40 sf2 (by decide) (by decide) rfl rfl ?_
      refine V.cm rfl tc_7 ?_
      refine r_ret0 dX4_goSign_327 rfl ?_
      first | (subst hsw; exact ⟨rfl, rfl, rfl⟩) | (refine ⟨rfl, rfl, ?_⟩; unfold sgC; rw [if_neg (by omega), if_neg (by omega), if_neg (by omega), if_neg (by omega), if_neg (by omega), if_neg (by omega), if_neg (by omega), if_neg (by omega), if_neg (by omega), if_neg (by omega), if_neg (by omega)])
    · refine r_tabEq (tgt := 322) dX4_goSign_82 hsw (by decide) (by decide) rfl (by decide) ?_
      refine r_aload_n dX4_goSign_322 rfl (by decide) ?_
      refine r_iconst dX4_goSign_323 (by decide) ?_
      refine r_pi 7 dX4_goSign_324 fpX4_40 sf2 (by decide) (by decide) rfl rfl ?_
      refine V.cm rfl tc_7 ?_
      refine r_ret0 dX4_goSign_327 rfl ?_
      first | (subst hsw; exact ⟨rfl, rfl, rfl⟩) | (refine ⟨rfl, rfl, ?_⟩; unfold sgC; rw [if_neg (by omega), if_neg (by omega), if_neg (by omega), if_neg (by omega), if_neg (by omega), if_neg (by omega), if_neg (by omega), if_neg (by omega), if_neg (by omega), if_neg (by omega), if_neg (by omega)])
    · refine r_tabEq (tgt := 322) dX4_goSign_82 hsw (by decide) (by decide) rfl (by decide) ?_
      refine r_aload_n dX4_goSign_322 rfl (by decide) ?_
      refine r_iconst dX4_goSign_323 (by decide) ?_
      refine r_pi 7 dX4_goSign_324 fpX4_40 sf2 (by decide) (by decide) rfl rfl ?_
      refine V.cm rfl tc_7 ?_
      refine r_ret0 dX4_goSign_327 rfl ?_
      first | (subst hsw; exact ⟨rfl, rfl, rfl⟩) | (refine ⟨rfl, rfl, ?_⟩; unfold sgC; rw [if_neg (by omega), if_neg (by omega), if_neg (by omega), if_neg (by omega), if_neg (by omega), if_neg (by omega), if_neg (by omega), if_neg (by omega), if_neg (by omega), if_neg (by omega), if_neg (by omega)])
    · refine r_tabEq (tgt := 224) dX4_goSign_82 hsw (by decide) (by decide) rfl (by decide) ?_
      refine r_aload_n dX4_goSign_224 rfl (by decide) ?_
      refine r_iconst dX4_goSign_225 (by decide) ?_
      refine r_pi 7 dX4_goSign_226 fpX4_40 sf2 (by decide) (by decide) rfl rfl ?_
      refine V.cm rfl tc_7 ?_
      refine r_goto (tgt := 327) dX4_goSign_229 (by decide) ?_
      refine r_ret0 dX4_goSign_327 rfl ?_
      first | (subst hsw; exact ⟨rfl, rfl, rfl⟩) | (refine ⟨rfl, rfl, ?_⟩; unfold sgC; rw [if_neg (by omega), if_neg (by omega), if_neg (by omega), if_neg (by omega), if_neg (by omega), if_neg (by omega), if_neg (by omega), if_neg (by omega), if_neg (by omega), if_neg (by omega), if_neg (by omega)])
    · refine r_tabEq (tgt := 268) dX4_goSign_82 hsw (by decide) (by decide) rfl (by decide) ?_
      refine r_aload_n dX4_goSign_268 rfl (by decide) ?_
      refine r_iload_n dX4_goSign_269 rfl ?_
      refine r_if_eq (tgt := 278) dX4_goSign_270 (by decide) (fun h270 => by exfalso; omega) (fun h270 => ?_)
      refine r_bipush dX4_goSign_273 (by decide) (by decide) ?_
      refine r_goto (tgt := 280) dX4_goSign_275 (by decide) ?_
      refine r_pi 7 dX4_goSign_280 fpX4_40 sf2 (by decide) (by decide) rfl rfl ?_
      refine V.cm rfl tc_7 ?_
      refine r_goto (tgt := 327) dX4_goSign_283 (by decide) ?_
      refine r_ret0 dX4_goSign_327 rfl ?_
      first | (subst hsw; exact ⟨rfl, rfl, rfl⟩) | (refine ⟨rfl, rfl, ?_⟩; unfold sgC; rw [if_neg (by omega), if_neg (by omega), if_neg (by omega), if_neg (by omega), if_neg (by omega), if_neg (by omega), if_neg (by omega), if_neg (by omega), if_neg (by omega), if_neg (by omega), if_neg (by omega)])
    · refine r_tabEq (tgt := 304) dX4_goSign_82 hsw (by decide) (by decide) rfl (by decide) ?_
      refine r_aload_n dX4_goSign_304 rfl (by decide) ?_
      refine r_bipush dX4_goSign_305 (by decide) (by decide) ?_
      refine r_pi 7 dX4_goSign_307 fpX4_40 sf2 (by decide) (by decide) rfl rfl ?_
      refine V.cm rfl tc_7 ?_
      refine r_goto (tgt := 327) dX4_goSign_310 (by decide) ?_
      refine r_ret0 dX4_goSign_327 rfl ?_
      first | (subst hsw; exact ⟨rfl, rfl, rfl⟩) | (refine ⟨rfl, rfl, ?_⟩; unfold sgC; rw [if_neg (by omega), if_neg (by omega), if_neg (by omega), if_neg (by omega), if_neg (by omega), if_neg (by omega), if_neg (by omega), if_neg (by omega), if_neg (by omega), if_neg (by omega), if_neg (by omega)])
    · refine r_tabEq (tgt := 286) dX4_goSign_82 hsw (by decide) (by decide) rfl (by decide) ?_
      refine r_aload_n dX4_goSign_286 rfl (by decide) ?_
      refine r_iload_n dX4_goSign_287 rfl ?_
      refine r_if_eq (tgt := 296) dX4_goSign_288 (by decide) (fun h288 => by exfalso; omega) (fun h288 => ?_)
      refine r_bipush dX4_goSign_291 (by decide) (by decide) ?_
      refine r_goto (tgt := 298) dX4_goSign_293 (by decide) ?_
      refine r_pi 7 dX4_goSign_298 fpX4_40 sf2 (by decide) (by decide) rfl rfl ?_
      refine V.cm rfl tc_7 ?_
      refine r_goto (tgt := 327) dX4_goSign_301 (by decide) ?_
      refine r_ret0 dX4_goSign_327 rfl ?_
      first | (subst hsw; exact ⟨rfl, rfl, rfl⟩) | (refine ⟨rfl, rfl, ?_⟩; unfold sgC; rw [if_neg (by omega), if_neg (by omega), if_neg (by omega), if_neg (by omega), if_neg (by omega), if_neg (by omega), if_neg (by omega), if_neg (by omega), if_neg (by omega), if_neg (by omega), if_neg (by omega)])
theorem c_goSign {x y z : Int} {M : Me} {n : Nat} (h0 : M 2 0 = (n : Int)) (hn : n ≤ 300) {st kd vl i : Int} (hi : 0 ≤ i ∧ i < n) : Con kX4_goSign 1 0 0 [(1, 2)] (Sf x y z) (tcM M i st kd vl) (Ex none (Sf x y z) (tcM M (i + 1 + orC M i) st (sgC (btc M i) (orC M i)) vl)) := by
  refine Con.ofV (al := [(1, 2), (9, 0), (9, 0)]) 2 (by decide) (Nat.le_of_ble_eq_true rfl) rfl ?_
  refine r_aload_n dX4_goSign_0 rfl (by decide) ?_
  refine r_getr (x := 3) dX4_goSign_1 flX4_18 sf2 (by decide) (by decide) rfl rfl ?_
  refine r_aload_n dX4_goSign_4 rfl (by decide) ?_
  refine r_gi 5 dX4_goSign_5 flX4_34 sf2 (by decide) (by decide) rfl rfl tc_r5 ?_
  refine r_iald dX4_goSign_8 sf3 (by decide) (by omega) (by omega) (by decide) ((tc_o (by omega)).trans (btc_i (by omega)).symm) ?_
  refine r_istore_n dX4_goSign_9 rfl (by decide) st1 ?_
  refine r_aload_n dX4_goSign_10 rfl (by decide) ?_
  refine r_dup dX4_goSign_11 (Nat.ne_of_beq_eq_false rfl) ?_
  refine r_gi 5 dX4_goSign_12 flX4_34 sf2 (by decide) (by decide) rfl rfl tc_r5 ?_
  refine r_iconst dX4_goSign_15 (by decide) ?_
  refine r_iadd dX4_goSign_16 (w32_id (by omega)) ?_
  refine r_pi 5 dX4_goSign_17 fpX4_34 sf2 (by decide) (by decide) rfl rfl ?_
  refine V.cm rfl tc_5 ?_
  refine r_aload_n dX4_goSign_20 rfl (by decide) ?_
  refine r_gi 5 dX4_goSign_21 flX4_34 sf2 (by decide) (by decide) rfl rfl tc_r5 ?_
  refine r_aload_n dX4_goSign_24 rfl (by decide) ?_
  refine r_gi 0 dX4_goSign_25 flX4_22 sf2 (by decide) (by decide) rfl rfl ((tc_o (by omega)).trans h0) ?_
  refine r_icmp_ge (tgt := 61) dX4_goSign_28 (by decide) (fun h28 => ?_) (fun h28 => ?_)
  · refine r_iconst dX4_goSign_61 (by decide) ?_
    first | (rw [show orC M i = 1 from if_pos ⟨by omega, by omega⟩]; exact l_goSign h0 hn (by omega) (Or.inr rfl)) | (rw [show orC M i = 0 from if_neg (fun q => by first | omega | (have q1 := q.1; rw [btc_e (by omega)] at q1; omega))]; exact l_goSign h0 hn (by omega) (Or.inl rfl))
  · refine r_aload_n dX4_goSign_31 rfl (by decide) ?_
    refine r_getr (x := 3) dX4_goSign_32 flX4_18 sf2 (by decide) (by decide) rfl rfl ?_
    refine r_aload_n dX4_goSign_35 rfl (by decide) ?_
    refine r_gi 5 dX4_goSign_36 flX4_34 sf2 (by decide) (by decide) rfl rfl tc_r5 ?_
    refine r_iald dX4_goSign_39 sf3 (by decide) (by omega) (by omega) (by decide) ((tc_o (by omega)).trans (btc_i (by omega)).symm) ?_
    refine r_bipush dX4_goSign_40 (by decide) (by decide) ?_
    refine r_icmp_ne (tgt := 61) dX4_goSign_42 (by decide) (fun h42 => ?_) (fun h42 => ?_)
    · refine r_iconst dX4_goSign_61 (by decide) ?_
      first | (rw [show orC M i = 1 from if_pos ⟨by omega, by omega⟩]; exact l_goSign h0 hn (by omega) (Or.inr rfl)) | (rw [show orC M i = 0 from if_neg (fun q => by first | omega | (have q1 := q.1; rw [btc_e (by omega)] at q1; omega))]; exact l_goSign h0 hn (by omega) (Or.inl rfl))
    · refine r_iload_n dX4_goSign_45 rfl ?_
      refine r_bipush dX4_goSign_46 (by decide) (by decide) ?_
      refine r_icmp_eq (tgt := 57) dX4_goSign_48 (by decide) (fun h48 => ?_) (fun h48 => ?_)
      · refine r_iconst dX4_goSign_57 (by decide) ?_
        refine r_goto (tgt := 62) dX4_goSign_58 (by decide) ?_
        first | (rw [show orC M i = 1 from if_pos ⟨by omega, by omega⟩]; exact l_goSign h0 hn (by omega) (Or.inr rfl)) | (rw [show orC M i = 0 from if_neg (fun q => by first | omega | (have q1 := q.1; rw [btc_e (by omega)] at q1; omega))]; exact l_goSign h0 hn (by omega) (Or.inl rfl))
      · refine r_iload_n dX4_goSign_51 rfl ?_
        refine r_bipush dX4_goSign_52 (by decide) (by decide) ?_
        refine r_icmp_ne (tgt := 61) dX4_goSign_54 (by decide) (fun h54 => ?_) (fun h54 => ?_)
        · refine r_iconst dX4_goSign_61 (by decide) ?_
          first | (rw [show orC M i = 1 from if_pos ⟨by omega, by omega⟩]; exact l_goSign h0 hn (by omega) (Or.inr rfl)) | (rw [show orC M i = 0 from if_neg (fun q => by first | omega | (have q1 := q.1; rw [btc_e (by omega)] at q1; omega))]; exact l_goSign h0 hn (by omega) (Or.inl rfl))
        · refine r_iconst dX4_goSign_57 (by decide) ?_
          refine r_goto (tgt := 62) dX4_goSign_58 (by decide) ?_
          first | (rw [show orC M i = 1 from if_pos ⟨by omega, by omega⟩]; exact l_goSign h0 hn (by omega) (Or.inr rfl)) | (rw [show orC M i = 0 from if_neg (fun q => by first | omega | (have q1 := q.1; rw [btc_e (by omega)] at q1; omega))]; exact l_goSign h0 hn (by omega) (Or.inl rfl))
theorem l_go1 {x y z : Int} {M : Me} {n : Nat} (h0 : M 2 0 = (n : Int)) (hn : n ≤ 300) {st kd vl : Int} {Q : Option AV → Sh → Me → Prop} : ∀ (f : Nat) (i : Int), 0 ≤ i → i + f = n → V kX4_go 0 0 5 none Q 52 [(1, 2)] [] (Sf x y z) (tcM M (skC M f i) st kd vl) 0 0 → V kX4_go 0 0 5 none Q 0 [(1, 2)] [] (Sf x y z) (tcM M i st kd vl) 0 0 := by
  intro f
  induction f with
  | zero =>
    intro i hi hf hQ
    refine r_aload_n dX4_go_0 rfl (by decide) ?_
    refine r_gi 5 dX4_go_1 flX4_34 sf2 (by decide) (by decide) rfl rfl tc_r5 ?_
    refine r_aload_n dX4_go_4 rfl (by decide) ?_
    refine r_gi 0 dX4_go_5 flX4_22 sf2 (by decide) (by decide) rfl rfl ((tc_o (by omega)).trans h0) ?_
    refine r_icmp_ge (tgt := 52) dX4_go_8 (by decide) (fun h8 => ?_) (fun h8 => by exfalso; omega)
    exact hQ
  | succ f ih =>
    intro i hi hf hQ
    refine r_aload_n dX4_go_0 rfl (by decide) ?_
    refine r_gi 5 dX4_go_1 flX4_34 sf2 (by decide) (by decide) rfl rfl tc_r5 ?_
    refine r_aload_n dX4_go_4 rfl (by decide) ?_
    refine r_gi 0 dX4_go_5 flX4_22 sf2 (by decide) (by decide) rfl rfl ((tc_o (by omega)).trans h0) ?_
    refine r_icmp_ge (tgt := 52) dX4_go_8 (by decide) (fun h8 => by exfalso; omega) (fun h8 => ?_)
    refine r_aload_n dX4_go_11 rfl (by decide) ?_
    refine r_getr (x := 3) dX4_go_12 flX4_18 sf2 (by decide) (by decide) rfl rfl ?_
    refine r_aload_n dX4_go_15 rfl (by decide) ?_
    refine r_gi 5 dX4_go_16 flX4_34 sf2 (by decide) (by decide) rfl rfl tc_r5 ?_
    refine r_iald dX4_go_19 sf3 (by decide) (by omega) (by omega) (by decide) ((tc_o (by omega)).trans (btc_i (by omega)).symm) ?_
    refine r_bipush dX4_go_20 (by decide) (by decide) ?_
    refine r_icmp_eq (tgt := 39) dX4_go_22 (by decide) (fun h22 => ?_) (fun h22 => ?_)
    · refine r_aload_n dX4_go_39 rfl (by decide) ?_
      refine r_dup dX4_go_40 (Nat.ne_of_beq_eq_false rfl) ?_
      refine r_gi 5 dX4_go_41 flX4_34 sf2 (by decide) (by decide) rfl rfl tc_r5 ?_
      refine r_iconst dX4_go_44 (by decide) ?_
      refine r_iadd dX4_go_45 (w32_id (by omega)) ?_
      refine r_pi 5 dX4_go_46 fpX4_34 sf2 (by decide) (by decide) rfl rfl ?_
      refine V.cm rfl tc_5 ?_
      refine r_goto (tgt := 0) dX4_go_49 (by decide) ?_
      exact ih (i + 1) (by omega) (by omega) (by rw [show skC M (f + 1) i = skC M f (i + 1) from if_pos (by omega)] at hQ; exact hQ)
    · refine r_aload_n dX4_go_25 rfl (by decide) ?_
      refine r_getr (x := 3) dX4_go_26 flX4_18 sf2 (by decide) (by decide) rfl rfl ?_
      refine r_aload_n dX4_go_29 rfl (by decide) ?_
      refine r_gi 5 dX4_go_30 flX4_34 sf2 (by decide) (by decide) rfl rfl tc_r5 ?_
      refine r_iald dX4_go_33 sf3 (by decide) (by omega) (by omega) (by decide) ((tc_o (by omega)).trans (btc_i (by omega)).symm) ?_
      refine r_bipush dX4_go_34 (by decide) (by decide) ?_
      refine r_icmp_ne (tgt := 52) dX4_go_36 (by decide) (fun h36 => ?_) (fun h36 => ?_)
      · rw [show skC M (f + 1) i = i from if_neg (by omega)] at hQ
        exact hQ
      · refine r_aload_n dX4_go_39 rfl (by decide) ?_
        refine r_dup dX4_go_40 (Nat.ne_of_beq_eq_false rfl) ?_
        refine r_gi 5 dX4_go_41 flX4_34 sf2 (by decide) (by decide) rfl rfl tc_r5 ?_
        refine r_iconst dX4_go_44 (by decide) ?_
        refine r_iadd dX4_go_45 (w32_id (by omega)) ?_
        refine r_pi 5 dX4_go_46 fpX4_34 sf2 (by decide) (by decide) rfl rfl ?_
        refine V.cm rfl tc_5 ?_
        refine r_goto (tgt := 0) dX4_go_49 (by decide) ?_
        exact ih (i + 1) (by omega) (by omega) (by rw [show skC M (f + 1) i = skC M f (i + 1) from if_pos (by omega)] at hQ; exact hQ)
theorem l_go2 {x y z : Int} {M : Me} {n : Nat} (h0 : M 2 0 = (n : Int)) (hn : n ≤ 300) {st kd vl s : Int} (hs : 0 ≤ s ∧ s ≤ n) : V kX4_go 0 0 5 none (Ex none (Sf x y z) (goS2 M n s)) 52 [(1, 2)] [] (Sf x y z) (tcM M s st kd vl) 0 0 := by
  have he := fun h => btc_e (M := M) (i := s) h
  refine r_aload_n dX4_go_52 rfl (by decide) ?_
  refine r_aload_n dX4_go_53 rfl (by decide) ?_
  refine r_gi 5 dX4_go_54 flX4_34 sf2 (by decide) (by decide) rfl rfl tc_r5 ?_
  refine r_pi 6 dX4_go_57 fpX4_47 sf2 (by decide) (by decide) rfl rfl ?_
  refine V.cm rfl tc_6 ?_
  refine r_aload_n dX4_go_60 rfl (by decide) ?_
  refine r_iconst dX4_go_61 (by decide) ?_
  refine r_pi 8 dX4_go_62 fpX4_84 sf2 (by decide) (by decide) rfl rfl ?_
  refine V.cm rfl tc_8 ?_
  refine r_aload_n dX4_go_65 rfl (by decide) ?_
  refine r_gi 5 dX4_go_66 flX4_34 sf2 (by decide) (by decide) rfl rfl tc_r5 ?_
  refine r_aload_n dX4_go_69 rfl (by decide) ?_
  refine r_gi 0 dX4_go_70 flX4_22 sf2 (by decide) (by decide) rfl rfl ((tc_o (by omega)).trans h0) ?_
  refine r_icmp_lt (tgt := 84) dX4_go_73 (by decide) (fun h73 => ?_) (fun h73 => ?_)
  · refine r_aload_n dX4_go_84 rfl (by decide) ?_
    refine r_getr (x := 3) dX4_go_85 flX4_18 sf2 (by decide) (by decide) rfl rfl ?_
    refine r_aload_n dX4_go_88 rfl (by decide) ?_
    refine r_gi 5 dX4_go_89 flX4_34 sf2 (by decide) (by decide) rfl rfl tc_r5 ?_
    refine r_iald dX4_go_92 sf3 (by decide) (by omega) (by omega) (by decide) ((tc_o (by omega)).trans (btc_i (by omega)).symm) ?_
    refine r_cs1 dX4_go_93 clX4_125 (by first | decide | omega) (Nat.le_of_ble_eq_true rfl) (c_isDigit) ⟨Nat.zero_le _, Nat.zero_le _⟩ (fun _ => ?_)
    refine r_if_eq (tgt := 106) dX4_go_96 (by decide) (fun h96 => ?_) (fun h96 => ?_)
    · try have h96 := bi_0.mp h96
      refine r_aload_n dX4_go_106 rfl (by decide) ?_
      refine r_getr (x := 3) dX4_go_107 flX4_18 sf2 (by decide) (by decide) rfl rfl ?_
      refine r_aload_n dX4_go_110 rfl (by decide) ?_
      refine r_gi 5 dX4_go_111 flX4_34 sf2 (by decide) (by decide) rfl rfl tc_r5 ?_
      refine r_iald dX4_go_114 sf3 (by decide) (by omega) (by omega) (by decide) ((tc_o (by omega)).trans (btc_i (by omega)).symm) ?_
      refine r_cs1 dX4_go_115 clX4_131 (by first | decide | omega) (Nat.le_of_ble_eq_true rfl) (c_isLetterC) ⟨Nat.zero_le _, Nat.zero_le _⟩ (fun _ => ?_)
      refine r_if_eq (tgt := 128) dX4_go_118 (by decide) (fun h118 => ?_) (fun h118 => ?_)
      · try have h118 := bi_0.mp h118
        refine r_aload_n dX4_go_128 rfl (by decide) ?_
        refine r_cw0 dX4_go_129 clX4_137 sf2 (by decide) (by decide) rfl (by first | decide | omega) (Nat.le_of_ble_eq_true rfl) ((c_goSign h0 hn (by omega))) ⟨Nat.zero_le _, Nat.zero_le _⟩ ?_
        refine r_ret0 dX4_go_132 rfl ?_
        refine ⟨rfl, rfl, ?_⟩
        unfold goS2
        first | (rw [if_pos (by first | omega | assumption)]; done) | (rw [if_neg (by first | omega | assumption), if_pos (by first | omega | assumption)]; done) | (rw [if_neg (by first | omega | assumption), if_neg (by first | omega | assumption), if_pos (by first | omega | assumption)]; done) | (rw [if_neg (by first | omega | assumption), if_neg (by first | omega | assumption), if_neg (by first | omega | assumption)]; done)
      · try have h118 := bi_1.mp h118
        refine r_aload_n dX4_go_121 rfl (by decide) ?_
        refine r_cw0 dX4_go_122 clX4_134 sf2 (by decide) (by decide) rfl (by first | decide | omega) (Nat.le_of_ble_eq_true rfl) ((c_goWord h0 hn hs (by omega))) ⟨Nat.zero_le _, Nat.zero_le _⟩ ?_
        refine r_goto (tgt := 132) dX4_go_125 (by decide) ?_
        refine r_ret0 dX4_go_132 rfl ?_
        refine ⟨rfl, rfl, ?_⟩
        unfold goS2
        first | (rw [if_pos (by first | omega | assumption)]; done) | (rw [if_neg (by first | omega | assumption), if_pos (by first | omega | assumption)]; done) | (rw [if_neg (by first | omega | assumption), if_neg (by first | omega | assumption), if_pos (by first | omega | assumption)]; done) | (rw [if_neg (by first | omega | assumption), if_neg (by first | omega | assumption), if_neg (by first | omega | assumption)]; done)
    · try have h96 := bi_1.mp h96
      refine r_aload_n dX4_go_99 rfl (by decide) ?_
      refine r_cw0 dX4_go_100 clX4_128 sf2 (by decide) (by decide) rfl (by first | decide | omega) (Nat.le_of_ble_eq_true rfl) ((c_goNumber h0 hn hs)) ⟨Nat.zero_le _, Nat.zero_le _⟩ ?_
      refine r_goto (tgt := 132) dX4_go_103 (by decide) ?_
      refine r_ret0 dX4_go_132 rfl ?_
      refine ⟨rfl, rfl, ?_⟩
      unfold goS2
      first | (rw [if_pos (by first | omega | assumption)]; done) | (rw [if_neg (by first | omega | assumption), if_pos (by first | omega | assumption)]; done) | (rw [if_neg (by first | omega | assumption), if_neg (by first | omega | assumption), if_pos (by first | omega | assumption)]; done) | (rw [if_neg (by first | omega | assumption), if_neg (by first | omega | assumption), if_neg (by first | omega | assumption)]; done)
  · refine r_aload_n dX4_go_76 rfl (by decide) ?_
    refine r_iconst dX4_go_77 (by decide) ?_
    refine r_pi 7 dX4_go_78 fpX4_40 sf2 (by decide) (by decide) rfl rfl ?_
    refine V.cm rfl tc_7 ?_
    refine r_goto (tgt := 132) dX4_go_81 (by decide) ?_
    refine r_ret0 dX4_go_132 rfl ?_
    refine ⟨rfl, rfl, ?_⟩
    unfold goS2
    first | (rw [if_pos (by first | omega | assumption)]; done) | (rw [if_neg (by first | omega | assumption), if_pos (by first | omega | assumption)]; done) | (rw [if_neg (by first | omega | assumption), if_neg (by first | omega | assumption), if_pos (by first | omega | assumption)]; done) | (rw [if_neg (by first | omega | assumption), if_neg (by first | omega | assumption), if_neg (by first | omega | assumption)]; done)
theorem c_go {x y z : Int} {M : Me} {n : Nat} (h0 : M 2 0 = (n : Int)) (hn : n ≤ 300) (h5 : 0 ≤ M 2 5 ∧ M 2 5 ≤ n) : Con kX4_go 5 0 0 [(1, 2)] (Sf x y z) M (Ex none (Sf x y z) (goC M n)) := by
  have hb := skC_b (M := M) (n - M 2 5).toNat (M 2 5)
  refine Con.ofV (al := [(1, 2)]) 0 (by decide) (Nat.le_of_ble_eq_true rfl) rfl ?_
  refine V.cm rfl tc_id ?_
  exact l_go1 h0 hn (n - M 2 5).toNat (M 2 5) h5.1 (by omega) (l_go2 h0 hn (by omega))
