/-- the reference's memory behind a token: where, from where, its sort, its number, its letters -/
def tkM (M : Me) (p st kd nb wd : Int) : Me := fun a j => if a = 429 then (if j = 7 then p else if j = 8 then st else if j = 9 then kd else if j = 10 then nb else if j = 11 then wd else M a j) else M a j
theorem tk_o {M : Me} {p st kd nb wd a j : Int} (h : ¬ (a = 429 ∧ 7 ≤ j ∧ j ≤ 11)) : tkM M p st kd nb wd a j = M a j := by
  unfold tkM
  by_cases ha : a = 429
  · rw [if_pos ha, if_neg (by omega), if_neg (by omega), if_neg (by omega), if_neg (by omega), if_neg (by omega)]
  · rw [if_neg ha]
theorem tk_id {M : Me} : M = tkM M (M 429 7) (M 429 8) (M 429 9) (M 429 10) (M 429 11) := by
  funext a j
  by_cases h : a = 429 ∧ 7 ≤ j ∧ j ≤ 11
  · obtain ⟨rfl, h1, h2⟩ := h
    rcases (show j = 7 ∨ j = 8 ∨ j = 9 ∨ j = 10 ∨ j = 11 by omega) with r | r | r | r | r <;> subst r <;> rfl
  · exact (tk_o h).symm
theorem tk_r7 {M : Me} {p st kd nb wd : Int} : tkM M p st kd nb wd 429 7 = p := rfl
theorem tk_7 {M : Me} {p st kd nb wd v : Int} : up (tkM M p st kd nb wd) 429 7 v = tkM M v st kd nb wd := by
  funext a j
  unfold up tkM
  by_cases ha : a = 429
  · by_cases hj : j = 7
    · subst ha; subst hj; simp
    · simp [ha, hj]
  · simp [ha]
theorem tk_r8 {M : Me} {p st kd nb wd : Int} : tkM M p st kd nb wd 429 8 = st := rfl
theorem tk_8 {M : Me} {p st kd nb wd v : Int} : up (tkM M p st kd nb wd) 429 8 v = tkM M p v kd nb wd := by
  funext a j
  unfold up tkM
  by_cases ha : a = 429
  · by_cases hj : j = 8
    · subst ha; subst hj; simp
    · simp [ha, hj]
  · simp [ha]
theorem tk_r9 {M : Me} {p st kd nb wd : Int} : tkM M p st kd nb wd 429 9 = kd := rfl
theorem tk_9 {M : Me} {p st kd nb wd v : Int} : up (tkM M p st kd nb wd) 429 9 v = tkM M p st v nb wd := by
  funext a j
  unfold up tkM
  by_cases ha : a = 429
  · by_cases hj : j = 9
    · subst ha; subst hj; simp
    · simp [ha, hj]
  · simp [ha]
theorem tk_r10 {M : Me} {p st kd nb wd : Int} : tkM M p st kd nb wd 429 10 = nb := rfl
theorem tk_10 {M : Me} {p st kd nb wd v : Int} : up (tkM M p st kd nb wd) 429 10 v = tkM M p st kd v wd := by
  funext a j
  unfold up tkM
  by_cases ha : a = 429
  · by_cases hj : j = 10
    · subst ha; subst hj; simp
    · simp [ha, hj]
  · simp [ha]
theorem tk_r11 {M : Me} {p st kd nb wd : Int} : tkM M p st kd nb wd 429 11 = wd := rfl
theorem tk_11 {M : Me} {p st kd nb wd v : Int} : up (tkM M p st kd nb wd) 429 11 v = tkM M p st kd nb v := by
  funext a j
  unfold up tkM
  by_cases ha : a = 429
  · by_cases hj : j = 11
    · subst ha; subst hj; simp
    · simp [ha, hj]
  · simp [ha]
theorem bta_tk {M : Me} {p st kd nb wd i : Int} : bta (tkM M p st kd nb wd) i = bta M i := by
  unfold bta; rw [tk_o (by omega), tk_o (by omega)]
def skA (M : Me) : Nat → Int → Int
  | 0, i => i
  | f + 1, i => if bta M i = 32 ∨ bta M i = 10 then skA M f (i + 1) else i
def nuS (M : Me) : Nat → Int → Int → Int × Int
  | 0, i, u => (i, u)
  | f + 1, i, u => if 48 ≤ bta M i ∧ bta M i ≤ 57 then nuS M f (i + 1) (if u ≤ 99999 then 10 * u + bta M i - 48 else u) else (i, u)
def woS (M : Me) : Nat → Int → Int → Int × Int
  | 0, i, w => (i, w)
  | f + 1, i, w => if 97 ≤ bta M i ∧ bta M i ≤ 122 ∨ 65 ≤ bta M i ∧ bta M i ≤ 90 then woS M f (i + 1) (if shr64 w 48 = 0 then or64 (shl64 w 8) (bta M i) else 1152921504606846976) else (i, w)
theorem skA_b {M : Me} : ∀ (f : Nat) (i : Int), i ≤ skA M f i ∧ skA M f i ≤ i + f := by
  intro f
  induction f with
  | zero => intro i; exact (show i ≤ i ∧ i ≤ i + ((0 : Nat) : Int) by omega)
  | succ f ih =>
    intro i
    have := ih (i + 1)
    unfold skA
    split <;> omega
theorem bta_e {M : Me} {i : Int} (h : M 429 4 ≤ i) : bta M i = -1 := if_neg (by omega)
theorem bta_l {M : Me} {i : Int} (h : 0 ≤ bta M i) : i < M 429 4 := by
  unfold bta at h
  split at h
  · assumption
  · omega
def nxT (M : Me) (n : Nat) : Me :=
  if bta M (skA M (n - M 429 7).toNat (M 429 7)) < 0 then tkM M (skA M (n - M 429 7).toNat (M 429 7)) (skA M (n - M 429 7).toNat (M 429 7)) 0 (M 429 10) (M 429 11)
  else if 48 ≤ bta M (skA M (n - M 429 7).toNat (M 429 7)) ∧ bta M (skA M (n - M 429 7).toNat (M 429 7)) ≤ 57 then tkM M (nuS M (n - skA M (n - M 429 7).toNat (M 429 7)).toNat (skA M (n - M 429 7).toNat (M 429 7)) 0).1 (skA M (n - M 429 7).toNat (M 429 7)) 1 (nuS M (n - skA M (n - M 429 7).toNat (M 429 7)).toNat (skA M (n - M 429 7).toNat (M 429 7)) 0).2 (M 429 11)
  else if 97 ≤ bta M (skA M (n - M 429 7).toNat (M 429 7)) ∧ bta M (skA M (n - M 429 7).toNat (M 429 7)) ≤ 122 ∨ 65 ≤ bta M (skA M (n - M 429 7).toNat (M 429 7)) ∧ bta M (skA M (n - M 429 7).toNat (M 429 7)) ≤ 90 then tkM M (woS M (n - skA M (n - M 429 7).toNat (M 429 7)).toNat (skA M (n - M 429 7).toNat (M 429 7)) 0).1 (skA M (n - M 429 7).toNat (M 429 7)) 2 (M 429 10) (woS M (n - skA M (n - M 429 7).toNat (M 429 7)).toNat (skA M (n - M 429 7).toNat (M 429 7)) 0).2
  else if bta M (skA M (n - M 429 7).toNat (M 429 7)) = 60 ∧ bta M (skA M (n - M 429 7).toNat (M 429 7) + 1) = 61 then tkM M (skA M (n - M 429 7).toNat (M 429 7) + 1 + 1) (skA M (n - M 429 7).toNat (M 429 7)) 4 (M 429 10) (M 429 11)
  else if bta M (skA M (n - M 429 7).toNat (M 429 7)) = 62 ∧ bta M (skA M (n - M 429 7).toNat (M 429 7) + 1) = 61 then tkM M (skA M (n - M 429 7).toNat (M 429 7) + 1 + 1) (skA M (n - M 429 7).toNat (M 429 7)) 5 (M 429 10) (M 429 11)
  else tkM M (skA M (n - M 429 7).toNat (M 429 7) + 1) (skA M (n - M 429 7).toNat (M 429 7)) (if bta M (skA M (n - M 429 7).toNat (M 429 7)) = 35 ∨ (40 ≤ bta M (skA M (n - M 429 7).toNat (M 429 7)) ∧ bta M (skA M (n - M 429 7).toNat (M 429 7)) ≤ 43) ∨ bta M (skA M (n - M 429 7).toNat (M 429 7)) = 45 ∨ bta M (skA M (n - M 429 7).toNat (M 429 7)) = 47 ∨ (58 ≤ bta M (skA M (n - M 429 7).toNat (M 429 7)) ∧ bta M (skA M (n - M 429 7).toNat (M 429 7)) ≤ 62) then bta M (skA M (n - M 429 7).toNat (M 429 7)) else 3) (M 429 10) (M 429 11)
theorem l_skip {x y z : Int} {M : Me} {n : Nat} (h4 : M 429 4 = (n : Int)) (hn : n ≤ 300) {st kd nb wd : Int} {l1 : AV} {Q : Option AV → Sh → Me → Prop} : ∀ (f : Nat) (i : Int), 0 ≤ i → i + f = n → V kX11_nextToken 0 0 1 none Q 39 [(1, 429), l1] [] (Sf x y z) (tkM M (skA M f i) st kd nb wd) 0 0 → V kX11_nextToken 0 0 1 none Q 0 [(1, 429), l1] [] (Sf x y z) (tkM M i st kd nb wd) 0 0 := by
  intro f
  induction f with
  | zero =>
    intro i h0 hf hc
    have he := bta_e (M := M) (i := i) (by omega)
    refine r_aload_n dX11_nextToken_0 rfl (by decide) ?_
    refine r_aload_n dX11_nextToken_1 rfl (by decide) ?_
    refine r_gi 7 dX11_nextToken_2 flX11_95 sf429 (by decide) (by decide) rfl rfl tk_r7 ?_
    refine r_cv1 dX11_nextToken_5 clX11_98 sf429 (by decide) (by decide) rfl (by first | decide | omega) (Nat.le_of_ble_eq_true rfl) ((c_byteAt (by omega) (by rw [tk_o (by omega)]; omega))) ⟨Nat.zero_le _, Nat.zero_le _⟩ (fun _ => ?_)
    rw [bta_tk]
    refine r_bipush dX11_nextToken_8 (by decide) (by decide) ?_
    refine r_icmp_eq (tgt := 26) dX11_nextToken_10 (by decide) (fun h10 => ?_) (fun h10 => ?_)
    · refine r_aload_n dX11_nextToken_26 rfl (by decide) ?_
      refine r_dup dX11_nextToken_27 (Nat.ne_of_beq_eq_false rfl) ?_
      refine r_gi 7 dX11_nextToken_28 flX11_95 sf429 (by decide) (by decide) rfl rfl tk_r7 ?_
      refine r_iconst dX11_nextToken_31 (by decide) ?_
      refine r_iadd dX11_nextToken_32 (w32_id (by omega)) ?_
      refine r_pi 7 dX11_nextToken_33 fpX11_95 sf429 (by decide) (by decide) rfl rfl ?_
      refine V.cm rfl tk_7 ?_
      refine r_goto (tgt := 0) dX11_nextToken_36 (by decide) ?_
      exfalso; omega
    · refine r_aload_n dX11_nextToken_13 rfl (by decide) ?_
      refine r_aload_n dX11_nextToken_14 rfl (by decide) ?_
      refine r_gi 7 dX11_nextToken_15 flX11_95 sf429 (by decide) (by decide) rfl rfl tk_r7 ?_
      refine r_cv1 dX11_nextToken_18 clX11_98 sf429 (by decide) (by decide) rfl (by first | decide | omega) (Nat.le_of_ble_eq_true rfl) ((c_byteAt (by omega) (by rw [tk_o (by omega)]; omega))) ⟨Nat.zero_le _, Nat.zero_le _⟩ (fun _ => ?_)
      rw [bta_tk]
      refine r_bipush dX11_nextToken_21 (by decide) (by decide) ?_
      refine r_icmp_ne (tgt := 39) dX11_nextToken_23 (by decide) (fun h23 => ?_) (fun h23 => ?_)
      · exact hc
      · refine r_aload_n dX11_nextToken_26 rfl (by decide) ?_
        refine r_dup dX11_nextToken_27 (Nat.ne_of_beq_eq_false rfl) ?_
        refine r_gi 7 dX11_nextToken_28 flX11_95 sf429 (by decide) (by decide) rfl rfl tk_r7 ?_
        refine r_iconst dX11_nextToken_31 (by decide) ?_
        refine r_iadd dX11_nextToken_32 (w32_id (by omega)) ?_
        refine r_pi 7 dX11_nextToken_33 fpX11_95 sf429 (by decide) (by decide) rfl rfl ?_
        refine V.cm rfl tk_7 ?_
        refine r_goto (tgt := 0) dX11_nextToken_36 (by decide) ?_
        exfalso; omega
  | succ f ih =>
    intro i h0 hf hc
    refine r_aload_n dX11_nextToken_0 rfl (by decide) ?_
    refine r_aload_n dX11_nextToken_1 rfl (by decide) ?_
    refine r_gi 7 dX11_nextToken_2 flX11_95 sf429 (by decide) (by decide) rfl rfl tk_r7 ?_
    refine r_cv1 dX11_nextToken_5 clX11_98 sf429 (by decide) (by decide) rfl (by first | decide | omega) (Nat.le_of_ble_eq_true rfl) ((c_byteAt (by omega) (by rw [tk_o (by omega)]; omega))) ⟨Nat.zero_le _, Nat.zero_le _⟩ (fun _ => ?_)
    rw [bta_tk]
    refine r_bipush dX11_nextToken_8 (by decide) (by decide) ?_
    refine r_icmp_eq (tgt := 26) dX11_nextToken_10 (by decide) (fun h10 => ?_) (fun h10 => ?_)
    · refine r_aload_n dX11_nextToken_26 rfl (by decide) ?_
      refine r_dup dX11_nextToken_27 (Nat.ne_of_beq_eq_false rfl) ?_
      refine r_gi 7 dX11_nextToken_28 flX11_95 sf429 (by decide) (by decide) rfl rfl tk_r7 ?_
      refine r_iconst dX11_nextToken_31 (by decide) ?_
      refine r_iadd dX11_nextToken_32 (w32_id (by omega)) ?_
      refine r_pi 7 dX11_nextToken_33 fpX11_95 sf429 (by decide) (by decide) rfl rfl ?_
      refine V.cm rfl tk_7 ?_
      refine r_goto (tgt := 0) dX11_nextToken_36 (by decide) ?_
      exact ih (i + 1) (by omega) (by omega) (by rw [show skA M (f + 1) i = skA M f (i + 1) from if_pos (by omega)] at hc; exact hc)
    · refine r_aload_n dX11_nextToken_13 rfl (by decide) ?_
      refine r_aload_n dX11_nextToken_14 rfl (by decide) ?_
      refine r_gi 7 dX11_nextToken_15 flX11_95 sf429 (by decide) (by decide) rfl rfl tk_r7 ?_
      refine r_cv1 dX11_nextToken_18 clX11_98 sf429 (by decide) (by decide) rfl (by first | decide | omega) (Nat.le_of_ble_eq_true rfl) ((c_byteAt (by omega) (by rw [tk_o (by omega)]; omega))) ⟨Nat.zero_le _, Nat.zero_le _⟩ (fun _ => ?_)
      rw [bta_tk]
      refine r_bipush dX11_nextToken_21 (by decide) (by decide) ?_
      refine r_icmp_ne (tgt := 39) dX11_nextToken_23 (by decide) (fun h23 => ?_) (fun h23 => ?_)
      · exact (by rw [show skA M (f + 1) i = i from if_neg (by omega)] at hc; exact hc)
      · refine r_aload_n dX11_nextToken_26 rfl (by decide) ?_
        refine r_dup dX11_nextToken_27 (Nat.ne_of_beq_eq_false rfl) ?_
        refine r_gi 7 dX11_nextToken_28 flX11_95 sf429 (by decide) (by decide) rfl rfl tk_r7 ?_
        refine r_iconst dX11_nextToken_31 (by decide) ?_
        refine r_iadd dX11_nextToken_32 (w32_id (by omega)) ?_
        refine r_pi 7 dX11_nextToken_33 fpX11_95 sf429 (by decide) (by decide) rfl rfl ?_
        refine V.cm rfl tk_7 ?_
        refine r_goto (tgt := 0) dX11_nextToken_36 (by decide) ?_
        exact ih (i + 1) (by omega) (by omega) (by rw [show skA M (f + 1) i = skA M f (i + 1) from if_pos (by omega)] at hc; exact hc)
theorem l_number {x y z : Int} {M : Me} {n : Nat} (h4 : M 429 4 = (n : Int)) (hn : n ≤ 300) {st kd nb wd : Int} {l1 : AV} {Q : Option AV → Sh → Me → Prop} : ∀ (f : Nat) (i u : Int), 0 ≤ i → i + f = n → 0 ≤ u ∧ u ≤ 999999 → V kX11_nextToken 0 0 1 none Q 310 [(1, 429), l1] [] (Sf x y z) (tkM M (nuS M f i u).1 st kd (nuS M f i u).2 wd) 0 0 → V kX11_nextToken 0 0 1 none Q 85 [(1, 429), l1] [] (Sf x y z) (tkM M i st kd u wd) 0 0 := by
  intro f
  induction f with
  | zero =>
    intro i u h0 hf h9 hc
    have he := bta_e (M := M) (i := i) (by omega)
    refine r_aload_n dX11_nextToken_85 rfl (by decide) ?_
    refine r_aload_n dX11_nextToken_86 rfl (by decide) ?_
    refine r_gi 7 dX11_nextToken_87 flX11_95 sf429 (by decide) (by decide) rfl rfl tk_r7 ?_
    refine r_cv1 dX11_nextToken_90 clX11_98 sf429 (by decide) (by decide) rfl (by first | decide | omega) (Nat.le_of_ble_eq_true rfl) ((c_byteAt (by omega) (by rw [tk_o (by omega)]; omega))) ⟨Nat.zero_le _, Nat.zero_le _⟩ (fun _ => ?_)
    rw [bta_tk]
    refine r_cs1 dX11_nextToken_93 clX11_108 (by first | decide | omega) (Nat.le_of_ble_eq_true rfl) (c_isFigure) ⟨Nat.zero_le _, Nat.zero_le _⟩ (fun _ => ?_)
    refine r_if_eq (tgt := 310) dX11_nextToken_96 (by decide) (fun h96 => ?_) (fun h96 => ?_)
    · try have h96 := bi_0.mp h96
      exact hc
    · try have h96 := bi_1.mp h96
      refine r_aload_n dX11_nextToken_99 rfl (by decide) ?_
      refine r_aload_n dX11_nextToken_100 rfl (by decide) ?_
      refine r_gi 10 dX11_nextToken_101 flX11_111 sf429 (by decide) (by decide) rfl rfl tk_r10 ?_
      refine r_ldc (x := 99999) dX11_nextToken_104 ctX11_114 (by decide) ?_
      refine r_icmp_le (tgt := 116) dX11_nextToken_106 (by decide) (fun h106 => ?_) (fun h106 => ?_)
      · refine r_bipush dX11_nextToken_116 (by decide) (by decide) ?_
        refine r_aload_n dX11_nextToken_118 rfl (by decide) ?_
        refine r_gi 10 dX11_nextToken_119 flX11_111 sf429 (by decide) (by decide) rfl rfl tk_r10 ?_
        refine r_imul dX11_nextToken_122 (w32_id (by omega)) ?_
        refine r_aload_n dX11_nextToken_123 rfl (by decide) ?_
        refine r_aload_n dX11_nextToken_124 rfl (by decide) ?_
        refine r_gi 7 dX11_nextToken_125 flX11_95 sf429 (by decide) (by decide) rfl rfl tk_r7 ?_
        refine r_cv1 dX11_nextToken_128 clX11_98 sf429 (by decide) (by decide) rfl (by first | decide | omega) (Nat.le_of_ble_eq_true rfl) ((c_byteAt (by omega) (by rw [tk_o (by omega)]; omega))) ⟨Nat.zero_le _, Nat.zero_le _⟩ (fun _ => ?_)
        rw [bta_tk]
        refine r_iadd dX11_nextToken_131 (w32_id (by omega)) ?_
        refine r_bipush dX11_nextToken_132 (by decide) (by decide) ?_
        refine r_isub dX11_nextToken_134 (w32_id (by omega)) ?_
        refine r_pi 10 dX11_nextToken_135 fpX11_111 sf429 (by decide) (by decide) rfl rfl ?_
        refine V.cm rfl tk_10 ?_
        refine r_aload_n dX11_nextToken_138 rfl (by decide) ?_
        refine r_dup dX11_nextToken_139 (Nat.ne_of_beq_eq_false rfl) ?_
        refine r_gi 7 dX11_nextToken_140 flX11_95 sf429 (by decide) (by decide) rfl rfl tk_r7 ?_
        refine r_iconst dX11_nextToken_143 (by decide) ?_
        refine r_iadd dX11_nextToken_144 (w32_id (by omega)) ?_
        refine r_pi 7 dX11_nextToken_145 fpX11_95 sf429 (by decide) (by decide) rfl rfl ?_
        refine V.cm rfl tk_7 ?_
        refine r_goto (tgt := 85) dX11_nextToken_148 (by decide) ?_
        exfalso; omega
      · refine r_aload_n dX11_nextToken_109 rfl (by decide) ?_
        refine r_gi 10 dX11_nextToken_110 flX11_111 sf429 (by decide) (by decide) rfl rfl tk_r10 ?_
        refine r_goto (tgt := 135) dX11_nextToken_113 (by decide) ?_
        refine r_pi 10 dX11_nextToken_135 fpX11_111 sf429 (by decide) (by decide) rfl rfl ?_
        refine V.cm rfl tk_10 ?_
        refine r_aload_n dX11_nextToken_138 rfl (by decide) ?_
        refine r_dup dX11_nextToken_139 (Nat.ne_of_beq_eq_false rfl) ?_
        refine r_gi 7 dX11_nextToken_140 flX11_95 sf429 (by decide) (by decide) rfl rfl tk_r7 ?_
        refine r_iconst dX11_nextToken_143 (by decide) ?_
        refine r_iadd dX11_nextToken_144 (w32_id (by omega)) ?_
        refine r_pi 7 dX11_nextToken_145 fpX11_95 sf429 (by decide) (by decide) rfl rfl ?_
        refine V.cm rfl tk_7 ?_
        refine r_goto (tgt := 85) dX11_nextToken_148 (by decide) ?_
        exfalso; omega
  | succ f ih =>
    intro i u h0 hf h9 hc
    refine r_aload_n dX11_nextToken_85 rfl (by decide) ?_
    refine r_aload_n dX11_nextToken_86 rfl (by decide) ?_
    refine r_gi 7 dX11_nextToken_87 flX11_95 sf429 (by decide) (by decide) rfl rfl tk_r7 ?_
    refine r_cv1 dX11_nextToken_90 clX11_98 sf429 (by decide) (by decide) rfl (by first | decide | omega) (Nat.le_of_ble_eq_true rfl) ((c_byteAt (by omega) (by rw [tk_o (by omega)]; omega))) ⟨Nat.zero_le _, Nat.zero_le _⟩ (fun _ => ?_)
    rw [bta_tk]
    refine r_cs1 dX11_nextToken_93 clX11_108 (by first | decide | omega) (Nat.le_of_ble_eq_true rfl) (c_isFigure) ⟨Nat.zero_le _, Nat.zero_le _⟩ (fun _ => ?_)
    refine r_if_eq (tgt := 310) dX11_nextToken_96 (by decide) (fun h96 => ?_) (fun h96 => ?_)
    · try have h96 := bi_0.mp h96
      exact (by rw [show nuS M (f + 1) i u = (i, u) from if_neg (by omega)] at hc; exact hc)
    · try have h96 := bi_1.mp h96
      refine r_aload_n dX11_nextToken_99 rfl (by decide) ?_
      refine r_aload_n dX11_nextToken_100 rfl (by decide) ?_
      refine r_gi 10 dX11_nextToken_101 flX11_111 sf429 (by decide) (by decide) rfl rfl tk_r10 ?_
      refine r_ldc (x := 99999) dX11_nextToken_104 ctX11_114 (by decide) ?_
      refine r_icmp_le (tgt := 116) dX11_nextToken_106 (by decide) (fun h106 => ?_) (fun h106 => ?_)
      · refine r_bipush dX11_nextToken_116 (by decide) (by decide) ?_
        refine r_aload_n dX11_nextToken_118 rfl (by decide) ?_
        refine r_gi 10 dX11_nextToken_119 flX11_111 sf429 (by decide) (by decide) rfl rfl tk_r10 ?_
        refine r_imul dX11_nextToken_122 (w32_id (by omega)) ?_
        refine r_aload_n dX11_nextToken_123 rfl (by decide) ?_
        refine r_aload_n dX11_nextToken_124 rfl (by decide) ?_
        refine r_gi 7 dX11_nextToken_125 flX11_95 sf429 (by decide) (by decide) rfl rfl tk_r7 ?_
        refine r_cv1 dX11_nextToken_128 clX11_98 sf429 (by decide) (by decide) rfl (by first | decide | omega) (Nat.le_of_ble_eq_true rfl) ((c_byteAt (by omega) (by rw [tk_o (by omega)]; omega))) ⟨Nat.zero_le _, Nat.zero_le _⟩ (fun _ => ?_)
        rw [bta_tk]
        refine r_iadd dX11_nextToken_131 (w32_id (by omega)) ?_
        refine r_bipush dX11_nextToken_132 (by decide) (by decide) ?_
        refine r_isub dX11_nextToken_134 (w32_id (by omega)) ?_
        refine r_pi 10 dX11_nextToken_135 fpX11_111 sf429 (by decide) (by decide) rfl rfl ?_
        refine V.cm rfl tk_10 ?_
        refine r_aload_n dX11_nextToken_138 rfl (by decide) ?_
        refine r_dup dX11_nextToken_139 (Nat.ne_of_beq_eq_false rfl) ?_
        refine r_gi 7 dX11_nextToken_140 flX11_95 sf429 (by decide) (by decide) rfl rfl tk_r7 ?_
        refine r_iconst dX11_nextToken_143 (by decide) ?_
        refine r_iadd dX11_nextToken_144 (w32_id (by omega)) ?_
        refine r_pi 7 dX11_nextToken_145 fpX11_95 sf429 (by decide) (by decide) rfl rfl ?_
        refine V.cm rfl tk_7 ?_
        refine r_goto (tgt := 85) dX11_nextToken_148 (by decide) ?_
        exact ih (i + 1) _ (by omega) (by omega) (by omega) (by first | (rw [show nuS M (f + 1) i u = nuS M f (i + 1) _ from (if_pos (by omega)).trans (congrArg _ (if_pos (by omega)))] at hc; exact hc) | (rw [show nuS M (f + 1) i u = nuS M f (i + 1) _ from (if_pos (by omega)).trans (congrArg _ (if_neg (by omega)))] at hc; exact hc))
      · refine r_aload_n dX11_nextToken_109 rfl (by decide) ?_
        refine r_gi 10 dX11_nextToken_110 flX11_111 sf429 (by decide) (by decide) rfl rfl tk_r10 ?_
        refine r_goto (tgt := 135) dX11_nextToken_113 (by decide) ?_
        refine r_pi 10 dX11_nextToken_135 fpX11_111 sf429 (by decide) (by decide) rfl rfl ?_
        refine V.cm rfl tk_10 ?_
        refine r_aload_n dX11_nextToken_138 rfl (by decide) ?_
        refine r_dup dX11_nextToken_139 (Nat.ne_of_beq_eq_false rfl) ?_
        refine r_gi 7 dX11_nextToken_140 flX11_95 sf429 (by decide) (by decide) rfl rfl tk_r7 ?_
        refine r_iconst dX11_nextToken_143 (by decide) ?_
        refine r_iadd dX11_nextToken_144 (w32_id (by omega)) ?_
        refine r_pi 7 dX11_nextToken_145 fpX11_95 sf429 (by decide) (by decide) rfl rfl ?_
        refine V.cm rfl tk_7 ?_
        refine r_goto (tgt := 85) dX11_nextToken_148 (by decide) ?_
        exact ih (i + 1) _ (by omega) (by omega) (by omega) (by first | (rw [show nuS M (f + 1) i u = nuS M f (i + 1) _ from (if_pos (by omega)).trans (congrArg _ (if_pos (by omega)))] at hc; exact hc) | (rw [show nuS M (f + 1) i u = nuS M f (i + 1) _ from (if_pos (by omega)).trans (congrArg _ (if_neg (by omega)))] at hc; exact hc))
theorem l_word {x y z : Int} {M : Me} {n : Nat} (h4 : M 429 4 = (n : Int)) (hn : n ≤ 300) {st kd nb wd : Int} {l1 : AV} {Q : Option AV → Sh → Me → Prop} : ∀ (f : Nat) (i w : Int), 0 ≤ i → i + f = n → V kX11_nextToken 0 0 1 none Q 310 [(1, 429), l1] [] (Sf x y z) (tkM M (woS M f i w).1 st kd nb (woS M f i w).2) 0 0 → V kX11_nextToken 0 0 1 none Q 168 [(1, 429), l1] [] (Sf x y z) (tkM M i st kd nb w) 0 0 := by
  intro f
  induction f with
  | zero =>
    intro i w h0 hf hc
    have he := bta_e (M := M) (i := i) (by omega)
    refine r_aload_n dX11_nextToken_168 rfl (by decide) ?_
    refine r_aload_n dX11_nextToken_169 rfl (by decide) ?_
    refine r_gi 7 dX11_nextToken_170 flX11_95 sf429 (by decide) (by decide) rfl rfl tk_r7 ?_
    refine r_cv1 dX11_nextToken_173 clX11_98 sf429 (by decide) (by decide) rfl (by first | decide | omega) (Nat.le_of_ble_eq_true rfl) ((c_byteAt (by omega) (by rw [tk_o (by omega)]; omega))) ⟨Nat.zero_le _, Nat.zero_le _⟩ (fun _ => ?_)
    rw [bta_tk]
    refine r_cs1 dX11_nextToken_176 clX11_115 (by first | decide | omega) (Nat.le_of_ble_eq_true rfl) (c_isLetter) ⟨Nat.zero_le _, Nat.zero_le _⟩ (fun _ => ?_)
    refine r_if_eq (tgt := 310) dX11_nextToken_179 (by decide) (fun h179 => ?_) (fun h179 => ?_)
    · try have h179 := bi_0.mp h179
      exact hc
    · try have h179 := bi_1.mp h179
      refine r_aload_n dX11_nextToken_182 rfl (by decide) ?_
      refine r_aload_n dX11_nextToken_183 rfl (by decide) ?_
      refine r_gl 11 dX11_nextToken_184 flX11_118 sf429 (by decide) (by decide) rfl rfl tk_r11 ?_
      refine r_bipush dX11_nextToken_187 (by decide) (by decide) ?_
      refine r_lshr dX11_nextToken_189 rfl ?_
      refine r_lconst (x := 0) dX11_nextToken_190 rfl (by decide) ?_
      refine r_lcmp dX11_nextToken_191 ?_
      refine r_if_eq (tgt := 201) dX11_nextToken_192 (by decide) (fun h192 => ?_) (fun h192 => ?_)
      · replace h192 := lc_eq.mp h192
        refine r_aload_n dX11_nextToken_201 rfl (by decide) ?_
        refine r_gl 11 dX11_nextToken_202 flX11_118 sf429 (by decide) (by decide) rfl rfl tk_r11 ?_
        refine r_bipush dX11_nextToken_205 (by decide) (by decide) ?_
        refine r_lshl dX11_nextToken_207 rfl ?_
        refine r_aload_n dX11_nextToken_208 rfl (by decide) ?_
        refine r_aload_n dX11_nextToken_209 rfl (by decide) ?_
        refine r_gi 7 dX11_nextToken_210 flX11_95 sf429 (by decide) (by decide) rfl rfl tk_r7 ?_
        refine r_cv1 dX11_nextToken_213 clX11_98 sf429 (by decide) (by decide) rfl (by first | decide | omega) (Nat.le_of_ble_eq_true rfl) ((c_byteAt (by omega) (by rw [tk_o (by omega)]; omega))) ⟨Nat.zero_le _, Nat.zero_le _⟩ (fun _ => ?_)
        rw [bta_tk]
        refine r_i2l dX11_nextToken_216 ?_
        refine r_lor dX11_nextToken_217 rfl ?_
        refine r_pl 11 dX11_nextToken_218 fpX11_118 sf429 (by decide) (by decide) rfl rfl ?_
        refine V.cm rfl tk_11 ?_
        refine r_aload_n dX11_nextToken_221 rfl (by decide) ?_
        refine r_dup dX11_nextToken_222 (Nat.ne_of_beq_eq_false rfl) ?_
        refine r_gi 7 dX11_nextToken_223 flX11_95 sf429 (by decide) (by decide) rfl rfl tk_r7 ?_
        refine r_iconst dX11_nextToken_226 (by decide) ?_
        refine r_iadd dX11_nextToken_227 (w32_id (by omega)) ?_
        refine r_pi 7 dX11_nextToken_228 fpX11_95 sf429 (by decide) (by decide) rfl rfl ?_
        refine V.cm rfl tk_7 ?_
        refine r_goto (tgt := 168) dX11_nextToken_231 (by decide) ?_
        exfalso; omega
      · replace h192 := lc_ne.mp h192
        refine r_ldc2 (x := 1152921504606846976) dX11_nextToken_195 ctX11_122 (by decide) ?_
        refine r_goto (tgt := 218) dX11_nextToken_198 (by decide) ?_
        refine r_pl 11 dX11_nextToken_218 fpX11_118 sf429 (by decide) (by decide) rfl rfl ?_
        refine V.cm rfl tk_11 ?_
        refine r_aload_n dX11_nextToken_221 rfl (by decide) ?_
        refine r_dup dX11_nextToken_222 (Nat.ne_of_beq_eq_false rfl) ?_
        refine r_gi 7 dX11_nextToken_223 flX11_95 sf429 (by decide) (by decide) rfl rfl tk_r7 ?_
        refine r_iconst dX11_nextToken_226 (by decide) ?_
        refine r_iadd dX11_nextToken_227 (w32_id (by omega)) ?_
        refine r_pi 7 dX11_nextToken_228 fpX11_95 sf429 (by decide) (by decide) rfl rfl ?_
        refine V.cm rfl tk_7 ?_
        refine r_goto (tgt := 168) dX11_nextToken_231 (by decide) ?_
        exfalso; omega
  | succ f ih =>
    intro i w h0 hf hc
    refine r_aload_n dX11_nextToken_168 rfl (by decide) ?_
    refine r_aload_n dX11_nextToken_169 rfl (by decide) ?_
    refine r_gi 7 dX11_nextToken_170 flX11_95 sf429 (by decide) (by decide) rfl rfl tk_r7 ?_
    refine r_cv1 dX11_nextToken_173 clX11_98 sf429 (by decide) (by decide) rfl (by first | decide | omega) (Nat.le_of_ble_eq_true rfl) ((c_byteAt (by omega) (by rw [tk_o (by omega)]; omega))) ⟨Nat.zero_le _, Nat.zero_le _⟩ (fun _ => ?_)
    rw [bta_tk]
    refine r_cs1 dX11_nextToken_176 clX11_115 (by first | decide | omega) (Nat.le_of_ble_eq_true rfl) (c_isLetter) ⟨Nat.zero_le _, Nat.zero_le _⟩ (fun _ => ?_)
    refine r_if_eq (tgt := 310) dX11_nextToken_179 (by decide) (fun h179 => ?_) (fun h179 => ?_)
    · try have h179 := bi_0.mp h179
      exact (by rw [show woS M (f + 1) i w = (i, w) from if_neg (by omega)] at hc; exact hc)
    · try have h179 := bi_1.mp h179
      refine r_aload_n dX11_nextToken_182 rfl (by decide) ?_
      refine r_aload_n dX11_nextToken_183 rfl (by decide) ?_
      refine r_gl 11 dX11_nextToken_184 flX11_118 sf429 (by decide) (by decide) rfl rfl tk_r11 ?_
      refine r_bipush dX11_nextToken_187 (by decide) (by decide) ?_
      refine r_lshr dX11_nextToken_189 rfl ?_
      refine r_lconst (x := 0) dX11_nextToken_190 rfl (by decide) ?_
      refine r_lcmp dX11_nextToken_191 ?_
      refine r_if_eq (tgt := 201) dX11_nextToken_192 (by decide) (fun h192 => ?_) (fun h192 => ?_)
      · replace h192 := lc_eq.mp h192
        refine r_aload_n dX11_nextToken_201 rfl (by decide) ?_
        refine r_gl 11 dX11_nextToken_202 flX11_118 sf429 (by decide) (by decide) rfl rfl tk_r11 ?_
        refine r_bipush dX11_nextToken_205 (by decide) (by decide) ?_
        refine r_lshl dX11_nextToken_207 rfl ?_
        refine r_aload_n dX11_nextToken_208 rfl (by decide) ?_
        refine r_aload_n dX11_nextToken_209 rfl (by decide) ?_
        refine r_gi 7 dX11_nextToken_210 flX11_95 sf429 (by decide) (by decide) rfl rfl tk_r7 ?_
        refine r_cv1 dX11_nextToken_213 clX11_98 sf429 (by decide) (by decide) rfl (by first | decide | omega) (Nat.le_of_ble_eq_true rfl) ((c_byteAt (by omega) (by rw [tk_o (by omega)]; omega))) ⟨Nat.zero_le _, Nat.zero_le _⟩ (fun _ => ?_)
        rw [bta_tk]
        refine r_i2l dX11_nextToken_216 ?_
        refine r_lor dX11_nextToken_217 rfl ?_
        refine r_pl 11 dX11_nextToken_218 fpX11_118 sf429 (by decide) (by decide) rfl rfl ?_
        refine V.cm rfl tk_11 ?_
        refine r_aload_n dX11_nextToken_221 rfl (by decide) ?_
        refine r_dup dX11_nextToken_222 (Nat.ne_of_beq_eq_false rfl) ?_
        refine r_gi 7 dX11_nextToken_223 flX11_95 sf429 (by decide) (by decide) rfl rfl tk_r7 ?_
        refine r_iconst dX11_nextToken_226 (by decide) ?_
        refine r_iadd dX11_nextToken_227 (w32_id (by omega)) ?_
        refine r_pi 7 dX11_nextToken_228 fpX11_95 sf429 (by decide) (by decide) rfl rfl ?_
        refine V.cm rfl tk_7 ?_
        refine r_goto (tgt := 168) dX11_nextToken_231 (by decide) ?_
        exact ih (i + 1) _ (by omega) (by omega) (by first | (rw [show woS M (f + 1) i w = woS M f (i + 1) _ from (if_pos (by omega)).trans (congrArg _ (if_pos (by assumption)))] at hc; exact hc) | (rw [show woS M (f + 1) i w = woS M f (i + 1) _ from (if_pos (by omega)).trans (congrArg _ (if_neg (by assumption)))] at hc; exact hc))
      · replace h192 := lc_ne.mp h192
        refine r_ldc2 (x := 1152921504606846976) dX11_nextToken_195 ctX11_122 (by decide) ?_
        refine r_goto (tgt := 218) dX11_nextToken_198 (by decide) ?_
        refine r_pl 11 dX11_nextToken_218 fpX11_118 sf429 (by decide) (by decide) rfl rfl ?_
        refine V.cm rfl tk_11 ?_
        refine r_aload_n dX11_nextToken_221 rfl (by decide) ?_
        refine r_dup dX11_nextToken_222 (Nat.ne_of_beq_eq_false rfl) ?_
        refine r_gi 7 dX11_nextToken_223 flX11_95 sf429 (by decide) (by decide) rfl rfl tk_r7 ?_
        refine r_iconst dX11_nextToken_226 (by decide) ?_
        refine r_iadd dX11_nextToken_227 (w32_id (by omega)) ?_
        refine r_pi 7 dX11_nextToken_228 fpX11_95 sf429 (by decide) (by decide) rfl rfl ?_
        refine V.cm rfl tk_7 ?_
        refine r_goto (tgt := 168) dX11_nextToken_231 (by decide) ?_
        exact ih (i + 1) _ (by omega) (by omega) (by first | (rw [show woS M (f + 1) i w = woS M f (i + 1) _ from (if_pos (by omega)).trans (congrArg _ (if_pos (by assumption)))] at hc; exact hc) | (rw [show woS M (f + 1) i w = woS M f (i + 1) _ from (if_pos (by omega)).trans (congrArg _ (if_neg (by assumption)))] at hc; exact hc))
