/-- the reference's memory behind a token: where, from where, its sort, its number, its letters -/
def tkM (M : Me) (p st kd nb wd : Int) : Me := fun a j => if a = 429 then (if j = 7 then p else if j = 8 then st else if j = 9 then kd else if j = 10 then nb else if j = 11 then wd else M a j) else M a j
theorem tk_o {M : Me} {p st kd nb wd a j : Int} (h : ¬ (a = 429 ∧ 7 ≤ j ∧ j ≤ 11)) : tkM M p st kd nb wd a j = M a j := by
  unfold tkM
  by_cases ha : a = 429
  · rw [if_pos ha, if_neg (by omega), if_neg (by omega), if_neg (by omega), if_neg (by omega), if_neg (by omega)]
  · rw [if_neg ha]
theorem tk_id {M : Me} : M = tkM M (M 429 7) (M 429 8) (M 429 9) (M 429 10) (M 429 11) := by
  funext a j
  by_cases h : a = 429 ∧ 7 ≤ j ∧ j ≤ 11
  · obtain ⟨rfl, h1, h2⟩ := h
    rcases (show j = 7 ∨ j = 8 ∨ j = 9 ∨ j = 10 ∨ j = 11 by omega) with r | r | r | r | r <;> subst r <;> rfl
  · exact (tk_o h).symm
theorem tk_r7 {M : Me} {p st kd nb wd : Int} : tkM M p st kd nb wd 429 7 = p := rfl
theorem tk_7 {M : Me} {p st kd nb wd v : Int} : up (tkM M p st kd nb wd) 429 7 v = tkM M v st kd nb wd := by
  funext a j
  unfold up tkM
  by_cases ha : a = 429
  · by_cases hj : j = 7
    · subst ha; subst hj; simp
    · simp [ha, hj]
  · simp [ha]
theorem tk_r8 {M : Me} {p st kd nb wd : Int} : tkM M p st kd nb wd 429 8 = st := rfl
theorem tk_8 {M : Me} {p st kd nb wd v : Int} : up (tkM M p st kd nb wd) 429 8 v = tkM M p v kd nb wd := by
  funext a j
  unfold up tkM
  by_cases ha : a = 429
  · by_cases hj : j = 8
    · subst ha; subst hj; simp
    · simp [ha, hj]
  · simp [ha]
theorem tk_r9 {M : Me} {p st kd nb wd : Int} : tkM M p st kd nb wd 429 9 = kd := rfl
theorem tk_9 {M : Me} {p st kd nb wd v : Int} : up (tkM M p st kd nb wd) 429 9 v = tkM M p st v nb wd := by
  funext a j
  unfold up tkM
  by_cases ha : a = 429
  · by_cases hj : j = 9
    · subst ha; subst hj; simp
    · simp [ha, hj]
  · simp [ha]
theorem tk_r10 {M : Me} {p st kd nb wd : Int} : tkM M p st kd nb wd 429 10 = nb := rfl
theorem tk_10 {M : Me} {p st kd nb wd v : Int} : up (tkM M p st kd nb wd) 429 10 v = tkM M p st kd v wd := by
  funext a j
  unfold up tkM
  by_cases ha : a = 429
  · by_cases hj : j = 10
    · subst ha; subst hj; simp
    · simp [ha, hj]
  · simp [ha]
theorem tk_r11 {M : Me} {p st kd nb wd : Int} : tkM M p st kd nb wd 429 11 = wd := rfl
theorem tk_11 {M : Me} {p st kd nb wd v : Int} : up (tkM M p st kd nb wd) 429 11 v = tkM M p st kd nb v := by
  funext a j
  unfold up tkM
  by_cases ha : a = 429
  · by_cases hj : j = 11
    · subst ha; subst hj; simp
    · simp [ha, hj]
  · simp [ha]
theorem bta_tk {M : Me} {p st kd nb wd i : Int} : bta (tkM M p st kd nb wd) i = bta M i := by
  unfold bta; rw [tk_o (by omega), tk_o (by omega)]
def skA (M : Me) : Nat → Int → Int
  | 0, i => i
  | f + 1, i => if bta M i = 32 ∨ bta M i = 10 then skA M f (i + 1) else i
def nuS (M : Me) : Nat → Int → Int → Int × Int
  | 0, i, u => (i, u)
  | f + 1, i, u => if 48 ≤ bta M i ∧ bta M i ≤ 57 then nuS M f (i + 1) (if u ≤ 99999 then 10 * u + bta M i - 48 else u) else (i, u)
def woS (M : Me) : Nat → Int → Int → Int × Int
  | 0, i, w => (i, w)
  | f + 1, i, w => if 97 ≤ bta M i ∧ bta M i ≤ 122 ∨ 65 ≤ bta M i ∧ bta M i ≤ 90 then woS M f (i + 1) (if shr64 w 48 = 0 then or64 (shl64 w 8) (bta M i) else 1152921504606846976) else (i, w)
theorem skA_b {M : Me} : ∀ (f : Nat) (i : Int), i ≤ skA M f i ∧ skA M f i ≤ i + f := by
  intro f
  induction f with
  | zero => intro i; exact (show i ≤ i ∧ i ≤ i + ((0 : Nat) : Int) by omega)
  | succ f ih =>
    intro i
    have := ih (i + 1)
    unfold skA
    split <;> omega
theorem bta_e {M : Me} {i : Int} (h : M 429 4 ≤ i) : bta M i = -1 := if_neg (by omega)
theorem bta_l {M : Me} {i : Int} (h : 0 ≤ bta M i) : i < M 429 4 := by
  unfold bta at h
  split at h
  · assumption
  · omega
def nxtS (M : Me) (n : Nat) (s : Int) : Me :=
  if bta M s < 0 then tkM M s s 0 (M 429 10) (M 429 11)
  else if 48 ≤ bta M s ∧ bta M s ≤ 57 then tkM M (nuS M (n - s).toNat s 0).1 s 1 (nuS M (n - s).toNat s 0).2 (M 429 11)
  else if 97 ≤ bta M s ∧ bta M s ≤ 122 ∨ 65 ≤ bta M s ∧ bta M s ≤ 90 then tkM M (woS M (n - s).toNat s 0).1 s 2 (M 429 10) (woS M (n - s).toNat s 0).2
  else if bta M s = 60 ∧ bta M (s + 1) = 61 then tkM M (s + 1 + 1) s 4 (M 429 10) (M 429 11)
  else if bta M s = 62 ∧ bta M (s + 1) = 61 then tkM M (s + 1 + 1) s 5 (M 429 10) (M 429 11)
  else tkM M (s + 1) s (if bta M s = 35 ∨ (40 ≤ bta M s ∧ bta M s ≤ 43) ∨ bta M s = 45 ∨ bta M s = 47 ∨ (58 ≤ bta M s ∧ bta M s ≤ 62) then bta M s else 3) (M 429 10) (M 429 11)
/-- the next token -/
def nxT (M : Me) (n : Nat) : Me := nxtS M n (skA M (n - M 429 7).toNat (M 429 7))
theorem l_skip {x y z : Int} {M : Me} {n : Nat} (h4 : M 429 4 = (n : Int)) (hn : n ≤ 300) {st kd nb wd : Int} {l1 : AV} {Q : Option AV → Sh → Me → Prop} : ∀ (f : Nat) (i : Int), 0 ≤ i → i + f = n → V kX11_nextToken 0 0 1 none Q 39 [(1, 429), l1] [] (Sf x y z) (tkM M (skA M f i) st kd nb wd) 0 0 → V kX11_nextToken 0 0 1 none Q 0 [(1, 429), l1] [] (Sf x y z) (tkM M i st kd nb wd) 0 0 := by
  intro f
  induction f with
  | zero =>
    intro i h0 hf hc
    have he := bta_e (M := M) (i := i) (by omega)
    refine r_aload_n dX11_nextToken_0 rfl (by decide) ?_
    refine r_aload_n dX11_nextToken_1 rfl (by decide) ?_
    refine r_gi 7 dX11_nextToken_2 flX11_95 sf429 (by decide) (by decide) rfl rfl tk_r7 ?_
    refine r_cv1 dX11_nextToken_5 clX11_98 sf429 (by decide) (by decide) rfl (by first | decide | omega) (Nat.le_of_ble_eq_true rfl) ((c_byteAt (by omega) (by rw [tk_o (by omega)]; omega))) ⟨Nat.zero_le _, Nat.zero_le _⟩ (fun _ => ?_)
    rw [bta_tk]
    refine r_bipush dX11_nextToken_8 (by decide) (by decide) ?_
    refine r_icmp_eq (tgt := 26) dX11_nextToken_10 (by decide) (fun h10 => ?_) (fun h10 => ?_)
    · refine r_aload_n dX11_nextToken_26 rfl (by decide) ?_
      refine r_dup dX11_nextToken_27 (Nat.ne_of_beq_eq_false rfl) ?_
      refine r_gi 7 dX11_nextToken_28 flX11_95 sf429 (by decide) (by decide) rfl rfl tk_r7 ?_
      refine r_iconst dX11_nextToken_31 (by decide) ?_
      refine r_iadd dX11_nextToken_32 (w32_id (by omega)) ?_
      refine r_pi 7 dX11_nextToken_33 fpX11_95 sf429 (by decide) (by decide) rfl rfl ?_
      refine V.cm rfl tk_7 ?_
      refine r_goto (tgt := 0) dX11_nextToken_36 (by decide) ?_
      exfalso; omega
    · refine r_aload_n dX11_nextToken_13 rfl (by decide) ?_
      refine r_aload_n dX11_nextToken_14 rfl (by decide) ?_
      refine r_gi 7 dX11_nextToken_15 flX11_95 sf429 (by decide) (by decide) rfl rfl tk_r7 ?_
      refine r_cv1 dX11_nextToken_18 clX11_98 sf429 (by decide) (by decide) rfl (by first | decide | omega) (Nat.le_of_ble_eq_true rfl) ((c_byteAt (by omega) (by rw [tk_o (by omega)]; omega))) ⟨Nat.zero_le _, Nat.zero_le _⟩ (fun _ => ?_)
      rw [bta_tk]
      refine r_bipush dX11_nextToken_21 (by decide) (by decide) ?_
      refine r_icmp_ne (tgt := 39) dX11_nextToken_23 (by decide) (fun h23 => ?_) (fun h23 => ?_)
      · exact hc
      · refine r_aload_n dX11_nextToken_26 rfl (by decide) ?_
        refine r_dup dX11_nextToken_27 (Nat.ne_of_beq_eq_false rfl) ?_
        refine r_gi 7 dX11_nextToken_28 flX11_95 sf429 (by decide) (by decide) rfl rfl tk_r7 ?_
        refine r_iconst dX11_nextToken_31 (by decide) ?_
        refine r_iadd dX11_nextToken_32 (w32_id (by omega)) ?_
        refine r_pi 7 dX11_nextToken_33 fpX11_95 sf429 (by decide) (by decide) rfl rfl ?_
        refine V.cm rfl tk_7 ?_
        refine r_goto (tgt := 0) dX11_nextToken_36 (by decide) ?_
        exfalso; omega
  | succ f ih =>
    intro i h0 hf hc
    refine r_aload_n dX11_nextToken_0 rfl (by decide) ?_
    refine r_aload_n dX11_nextToken_1 rfl (by decide) ?_
    refine r_gi 7 dX11_nextToken_2 flX11_95 sf429 (by decide) (by decide) rfl rfl tk_r7 ?_
    refine r_cv1 dX11_nextToken_5 clX11_98 sf429 (by decide) (by decide) rfl (by first | decide | omega) (Nat.le_of_ble_eq_true rfl) ((c_byteAt (by omega) (by rw [tk_o (by omega)]; omega))) ⟨Nat.zero_le _, Nat.zero_le _⟩ (fun _ => ?_)
    rw [bta_tk]
    refine r_bipush dX11_nextToken_8 (by decide) (by decide) ?_
    refine r_icmp_eq (tgt := 26) dX11_nextToken_10 (by decide) (fun h10 => ?_) (fun h10 => ?_)
    · refine r_aload_n dX11_nextToken_26 rfl (by decide) ?_
      refine r_dup dX11_nextToken_27 (Nat.ne_of_beq_eq_false rfl) ?_
      refine r_gi 7 dX11_nextToken_28 flX11_95 sf429 (by decide) (by decide) rfl rfl tk_r7 ?_
      refine r_iconst dX11_nextToken_31 (by decide) ?_
      refine r_iadd dX11_nextToken_32 (w32_id (by omega)) ?_
      refine r_pi 7 dX11_nextToken_33 fpX11_95 sf429 (by decide) (by decide) rfl rfl ?_
      refine V.cm rfl tk_7 ?_
      refine r_goto (tgt := 0) dX11_nextToken_36 (by decide) ?_
      exact ih (i + 1) (by omega) (by omega) (by rw [show skA M (f + 1) i = skA M f (i + 1) from if_pos (by omega)] at hc; exact hc)
    · refine r_aload_n dX11_nextToken_13 rfl (by decide) ?_
      refine r_aload_n dX11_nextToken_14 rfl (by decide) ?_
      refine r_gi 7 dX11_nextToken_15 flX11_95 sf429 (by decide) (by decide) rfl rfl tk_r7 ?_
      refine r_cv1 dX11_nextToken_18 clX11_98 sf429 (by decide) (by decide) rfl (by first | decide | omega) (Nat.le_of_ble_eq_true rfl) ((c_byteAt (by omega) (by rw [tk_o (by omega)]; omega))) ⟨Nat.zero_le _, Nat.zero_le _⟩ (fun _ => ?_)
      rw [bta_tk]
      refine r_bipush dX11_nextToken_21 (by decide) (by decide) ?_
      refine r_icmp_ne (tgt := 39) dX11_nextToken_23 (by decide) (fun h23 => ?_) (fun h23 => ?_)
      · exact (by rw [show skA M (f + 1) i = i from if_neg (by omega)] at hc; exact hc)
      · refine r_aload_n dX11_nextToken_26 rfl (by decide) ?_
        refine r_dup dX11_nextToken_27 (Nat.ne_of_beq_eq_false rfl) ?_
        refine r_gi 7 dX11_nextToken_28 flX11_95 sf429 (by decide) (by decide) rfl rfl tk_r7 ?_
        refine r_iconst dX11_nextToken_31 (by decide) ?_
        refine r_iadd dX11_nextToken_32 (w32_id (by omega)) ?_
        refine r_pi 7 dX11_nextToken_33 fpX11_95 sf429 (by decide) (by decide) rfl rfl ?_
        refine V.cm rfl tk_7 ?_
        refine r_goto (tgt := 0) dX11_nextToken_36 (by decide) ?_
        exact ih (i + 1) (by omega) (by omega) (by rw [show skA M (f + 1) i = skA M f (i + 1) from if_pos (by omega)] at hc; exact hc)
theorem l_number {x y z : Int} {M : Me} {n : Nat} (h4 : M 429 4 = (n : Int)) (hn : n ≤ 300) {st kd nb wd : Int} {l1 : AV} {Q : Option AV → Sh → Me → Prop} : ∀ (f : Nat) (i u : Int), 0 ≤ i → i + f = n → 0 ≤ u ∧ u ≤ 999999 → V kX11_nextToken 0 0 1 none Q 310 [(1, 429), l1] [] (Sf x y z) (tkM M (nuS M f i u).1 st kd (nuS M f i u).2 wd) 0 0 → V kX11_nextToken 0 0 1 none Q 85 [(1, 429), l1] [] (Sf x y z) (tkM M i st kd u wd) 0 0 := by
  intro f
  induction f with
  | zero =>
    intro i u h0 hf h9 hc
    have he := bta_e (M := M) (i := i) (by omega)
    refine r_aload_n dX11_nextToken_85 rfl (by decide) ?_
    refine r_aload_n dX11_nextToken_86 rfl (by decide) ?_
    refine r_gi 7 dX11_nextToken_87 flX11_95 sf429 (by decide) (by decide) rfl rfl tk_r7 ?_
    refine r_cv1 dX11_nextToken_90 clX11_98 sf429 (by decide) (by decide) rfl (by first | decide | omega) (Nat.le_of_ble_eq_true rfl) ((c_byteAt (by omega) (by rw [tk_o (by omega)]; omega))) ⟨Nat.zero_le _, Nat.zero_le _⟩ (fun _ => ?_)
    rw [bta_tk]
    refine r_cs1 dX11_nextToken_93 clX11_108 (by first | decide | omega) (Nat.le_of_ble_eq_true rfl) (c_isFigure) ⟨Nat.zero_le _, Nat.zero_le _⟩ (fun _ => ?_)
    refine r_if_eq (tgt := 310) dX11_nextToken_96 (by decide) (fun h96 => ?_) (fun h96 => ?_)
    · try have h96 := bi_0.mp h96
      exact hc
    · try have h96 := bi_1.mp h96
      refine r_aload_n dX11_nextToken_99 rfl (by decide) ?_
      refine r_aload_n dX11_nextToken_100 rfl (by decide) ?_
      refine r_gi 10 dX11_nextToken_101 flX11_111 sf429 (by decide) (by decide) rfl rfl tk_r10 ?_
      refine r_ldc (x := 99999) dX11_nextToken_104 ctX11_114 (by decide) ?_
      refine r_icmp_le (tgt := 116) dX11_nextToken_106 (by decide) (fun h106 => ?_) (fun h106 => ?_)
      · refine r_bipush dX11_nextToken_116 (by decide) (by decide) ?_
        refine r_aload_n dX11_nextToken_118 rfl (by decide) ?_
        refine r_gi 10 dX11_nextToken_119 flX11_111 sf429 (by decide) (by decide) rfl rfl tk_r10 ?_
        refine r_imul dX11_nextToken_122 (w32_id (by omega)) ?_
        refine r_aload_n dX11_nextToken_123 rfl (by decide) ?_
        refine r_aload_n dX11_nextToken_124 rfl (by decide) ?_
        refine r_gi 7 dX11_nextToken_125 flX11_95 sf429 (by decide) (by decide) rfl rfl tk_r7 ?_
        refine r_cv1 dX11_nextToken_128 clX11_98 sf429 (by decide) (by decide) rfl (by first | decide | omega) (Nat.le_of_ble_eq_true rfl) ((c_byteAt (by omega) (by rw [tk_o (by omega)]; omega))) ⟨Nat.zero_le _, Nat.zero_le _⟩ (fun _ => ?_)
        rw [bta_tk]
        refine r_iadd dX11_nextToken_131 (w32_id (by omega)) ?_
        refine r_bipush dX11_nextToken_132 (by decide) (by decide) ?_
        refine r_isub dX11_nextToken_134 (w32_id (by omega)) ?_
        refine r_pi 10 dX11_nextToken_135 fpX11_111 sf429 (by decide) (by decide) rfl rfl ?_
        refine V.cm rfl tk_10 ?_
        refine r_aload_n dX11_nextToken_138 rfl (by decide) ?_
        refine r_dup dX11_nextToken_139 (Nat.ne_of_beq_eq_false rfl) ?_
        refine r_gi 7 dX11_nextToken_140 flX11_95 sf429 (by decide) (by decide) rfl rfl tk_r7 ?_
        refine r_iconst dX11_nextToken_143 (by decide) ?_
        refine r_iadd dX11_nextToken_144 (w32_id (by omega)) ?_
        refine r_pi 7 dX11_nextToken_145 fpX11_95 sf429 (by decide) (by decide) rfl rfl ?_
        refine V.cm rfl tk_7 ?_
        refine r_goto (tgt := 85) dX11_nextToken_148 (by decide) ?_
        exfalso; omega
      · refine r_aload_n dX11_nextToken_109 rfl (by decide) ?_
        refine r_gi 10 dX11_nextToken_110 flX11_111 sf429 (by decide) (by decide) rfl rfl tk_r10 ?_
        refine r_goto (tgt := 135) dX11_nextToken_113 (by decide) ?_
        refine r_pi 10 dX11_nextToken_135 fpX11_111 sf429 (by decide) (by decide) rfl rfl ?_
        refine V.cm rfl tk_10 ?_
        refine r_aload_n dX11_nextToken_138 rfl (by decide) ?_
        refine r_dup dX11_nextToken_139 (Nat.ne_of_beq_eq_false rfl) ?_
        refine r_gi 7 dX11_nextToken_140 flX11_95 sf429 (by decide) (by decide) rfl rfl tk_r7 ?_
        refine r_iconst dX11_nextToken_143 (by decide) ?_
        refine r_iadd dX11_nextToken_144 (w32_id (by omega)) ?_
        refine r_pi 7 dX11_nextToken_145 fpX11_95 sf429 (by decide) (by decide) rfl rfl ?_
        refine V.cm rfl tk_7 ?_
        refine r_goto (tgt := 85) dX11_nextToken_148 (by decide) ?_
        exfalso; omega
  | succ f ih =>
    intro i u h0 hf h9 hc
    refine r_aload_n dX11_nextToken_85 rfl (by decide) ?_
    refine r_aload_n dX11_nextToken_86 rfl (by decide) ?_
    refine r_gi 7 dX11_nextToken_87 flX11_95 sf429 (by decide) (by decide) rfl rfl tk_r7 ?_
    refine r_cv1 dX11_nextToken_90 clX11_98 sf429 (by decide) (by decide) rfl (by first | decide | omega) (Nat.le_of_ble_eq_true rfl) ((c_byteAt (by omega) (by rw [tk_o (by omega)]; omega))) ⟨Nat.zero_le _, Nat.zero_le _⟩ (fun _ => ?_)
    rw [bta_tk]
    refine r_cs1 dX11_nextToken_93 clX11_108 (by first | decide | omega) (Nat.le_of_ble_eq_true rfl) (c_isFigure) ⟨Nat.zero_le _, Nat.zero_le _⟩ (fun _ => ?_)
    refine r_if_eq (tgt := 310) dX11_nextToken_96 (by decide) (fun h96 => ?_) (fun h96 => ?_)
    · try have h96 := bi_0.mp h96
      exact (by rw [show nuS M (f + 1) i u = (i, u) from if_neg (by omega)] at hc; exact hc)
    · try have h96 := bi_1.mp h96
      refine r_aload_n dX11_nextToken_99 rfl (by decide) ?_
      refine r_aload_n dX11_nextToken_100 rfl (by decide) ?_
      refine r_gi 10 dX11_nextToken_101 flX11_111 sf429 (by decide) (by decide) rfl rfl tk_r10 ?_
      refine r_ldc (x := 99999) dX11_nextToken_104 ctX11_114 (by decide) ?_
      refine r_icmp_le (tgt := 116) dX11_nextToken_106 (by decide) (fun h106 => ?_) (fun h106 => ?_)
      · refine r_bipush dX11_nextToken_116 (by decide) (by decide) ?_
        refine r_aload_n dX11_nextToken_118 rfl (by decide) ?_
        refine r_gi 10 dX11_nextToken_119 flX11_111 sf429 (by decide) (by decide) rfl rfl tk_r10 ?_
        refine r_imul dX11_nextToken_122 (w32_id (by omega)) ?_
        refine r_aload_n dX11_nextToken_123 rfl (by decide) ?_
        refine r_aload_n dX11_nextToken_124 rfl (by decide) ?_
        refine r_gi 7 dX11_nextToken_125 flX11_95 sf429 (by decide) (by decide) rfl rfl tk_r7 ?_
        refine r_cv1 dX11_nextToken_128 clX11_98 sf429 (by decide) (by decide) rfl (by first | decide | omega) (Nat.le_of_ble_eq_true rfl) ((c_byteAt (by omega) (by rw [tk_o (by omega)]; omega))) ⟨Nat.zero_le _, Nat.zero_le _⟩ (fun _ => ?_)
        rw [bta_tk]
        refine r_iadd dX11_nextToken_131 (w32_id (by omega)) ?_
        refine r_bipush dX11_nextToken_132 (by decide) (by decide) ?_
        refine r_isub dX11_nextToken_134 (w32_id (by omega)) ?_
        refine r_pi 10 dX11_nextToken_135 fpX11_111 sf429 (by decide) (by decide) rfl rfl ?_
        refine V.cm rfl tk_10 ?_
        refine r_aload_n dX11_nextToken_138 rfl (by decide) ?_
        refine r_dup dX11_nextToken_139 (Nat.ne_of_beq_eq_false rfl) ?_
        refine r_gi 7 dX11_nextToken_140 flX11_95 sf429 (by decide) (by decide) rfl rfl tk_r7 ?_
        refine r_iconst dX11_nextToken_143 (by decide) ?_
        refine r_iadd dX11_nextToken_144 (w32_id (by omega)) ?_
        refine r_pi 7 dX11_nextToken_145 fpX11_95 sf429 (by decide) (by decide) rfl rfl ?_
        refine V.cm rfl tk_7 ?_
        refine r_goto (tgt := 85) dX11_nextToken_148 (by decide) ?_
        exact ih (i + 1) _ (by omega) (by omega) (by omega) (by first | (rw [show nuS M (f + 1) i u = nuS M f (i + 1) _ from (if_pos (by omega)).trans (congrArg _ (if_pos (by omega)))] at hc; exact hc) | (rw [show nuS M (f + 1) i u = nuS M f (i + 1) _ from (if_pos (by omega)).trans (congrArg _ (if_neg (by omega)))] at hc; exact hc))
      · refine r_aload_n dX11_nextToken_109 rfl (by decide) ?_
        refine r_gi 10 dX11_nextToken_110 flX11_111 sf429 (by decide) (by decide) rfl rfl tk_r10 ?_
        refine r_goto (tgt := 135) dX11_nextToken_113 (by decide) ?_
        refine r_pi 10 dX11_nextToken_135 fpX11_111 sf429 (by decide) (by decide) rfl rfl ?_
        refine V.cm rfl tk_10 ?_
        refine r_aload_n dX11_nextToken_138 rfl (by decide) ?_
        refine r_dup dX11_nextToken_139 (Nat.ne_of_beq_eq_false rfl) ?_
        refine r_gi 7 dX11_nextToken_140 flX11_95 sf429 (by decide) (by decide) rfl rfl tk_r7 ?_
        refine r_iconst dX11_nextToken_143 (by decide) ?_
        refine r_iadd dX11_nextToken_144 (w32_id (by omega)) ?_
        refine r_pi 7 dX11_nextToken_145 fpX11_95 sf429 (by decide) (by decide) rfl rfl ?_
        refine V.cm rfl tk_7 ?_
        refine r_goto (tgt := 85) dX11_nextToken_148 (by decide) ?_
        exact ih (i + 1) _ (by omega) (by omega) (by omega) (by first | (rw [show nuS M (f + 1) i u = nuS M f (i + 1) _ from (if_pos (by omega)).trans (congrArg _ (if_pos (by omega)))] at hc; exact hc) | (rw [show nuS M (f + 1) i u = nuS M f (i + 1) _ from (if_pos (by omega)).trans (congrArg _ (if_neg (by omega)))] at hc; exact hc))
theorem l_word {x y z : Int} {M : Me} {n : Nat} (h4 : M 429 4 = (n : Int)) (hn : n ≤ 300) {st kd nb wd : Int} {l1 : AV} {Q : Option AV → Sh → Me → Prop} : ∀ (f : Nat) (i w : Int), 0 ≤ i → i + f = n → V kX11_nextToken 0 0 1 none Q 310 [(1, 429), l1] [] (Sf x y z) (tkM M (woS M f i w).1 st kd nb (woS M f i w).2) 0 0 → V kX11_nextToken 0 0 1 none Q 168 [(1, 429), l1] [] (Sf x y z) (tkM M i st kd nb w) 0 0 := by
  intro f
  induction f with
  | zero =>
    intro i w h0 hf hc
    have he := bta_e (M := M) (i := i) (by omega)
    refine r_aload_n dX11_nextToken_168 rfl (by decide) ?_
    refine r_aload_n dX11_nextToken_169 rfl (by decide) ?_
    refine r_gi 7 dX11_nextToken_170 flX11_95 sf429 (by decide) (by decide) rfl rfl tk_r7 ?_
    refine r_cv1 dX11_nextToken_173 clX11_98 sf429 (by decide) (by decide) rfl (by first | decide | omega) (Nat.le_of_ble_eq_true rfl) ((c_byteAt (by omega) (by rw [tk_o (by omega)]; omega))) ⟨Nat.zero_le _, Nat.zero_le _⟩ (fun _ => ?_)
    rw [bta_tk]
    refine r_cs1 dX11_nextToken_176 clX11_115 (by first | decide | omega) (Nat.le_of_ble_eq_true rfl) (c_isLetter) ⟨Nat.zero_le _, Nat.zero_le _⟩ (fun _ => ?_)
    refine r_if_eq (tgt := 310) dX11_nextToken_179 (by decide) (fun h179 => ?_) (fun h179 => ?_)
    · try have h179 := bi_0.mp h179
      exact hc
    · try have h179 := bi_1.mp h179
      refine r_aload_n dX11_nextToken_182 rfl (by decide) ?_
      refine r_aload_n dX11_nextToken_183 rfl (by decide) ?_
      refine r_gl 11 dX11_nextToken_184 flX11_118 sf429 (by decide) (by decide) rfl rfl tk_r11 ?_
      refine r_bipush dX11_nextToken_187 (by decide) (by decide) ?_
      refine r_lshr dX11_nextToken_189 rfl ?_
      refine r_lconst (x := 0) dX11_nextToken_190 rfl (by decide) ?_
      refine r_lcmp dX11_nextToken_191 ?_
      refine r_if_eq (tgt := 201) dX11_nextToken_192 (by decide) (fun h192 => ?_) (fun h192 => ?_)
      · replace h192 := lc_eq.mp h192
        refine r_aload_n dX11_nextToken_201 rfl (by decide) ?_
        refine r_gl 11 dX11_nextToken_202 flX11_118 sf429 (by decide) (by decide) rfl rfl tk_r11 ?_
        refine r_bipush dX11_nextToken_205 (by decide) (by decide) ?_
        refine r_lshl dX11_nextToken_207 rfl ?_
        refine r_aload_n dX11_nextToken_208 rfl (by decide) ?_
        refine r_aload_n dX11_nextToken_209 rfl (by decide) ?_
        refine r_gi 7 dX11_nextToken_210 flX11_95 sf429 (by decide) (by decide) rfl rfl tk_r7 ?_
        refine r_cv1 dX11_nextToken_213 clX11_98 sf429 (by decide) (by decide) rfl (by first | decide | omega) (Nat.le_of_ble_eq_true rfl) ((c_byteAt (by omega) (by rw [tk_o (by omega)]; omega))) ⟨Nat.zero_le _, Nat.zero_le _⟩ (fun _ => ?_)
        rw [bta_tk]
        refine r_i2l dX11_nextToken_216 ?_
        refine r_lor dX11_nextToken_217 rfl ?_
        refine r_pl 11 dX11_nextToken_218 fpX11_118 sf429 (by decide) (by decide) rfl rfl ?_
        refine V.cm rfl tk_11 ?_
        refine r_aload_n dX11_nextToken_221 rfl (by decide) ?_
        refine r_dup dX11_nextToken_222 (Nat.ne_of_beq_eq_false rfl) ?_
        refine r_gi 7 dX11_nextToken_223 flX11_95 sf429 (by decide) (by decide) rfl rfl tk_r7 ?_
        refine r_iconst dX11_nextToken_226 (by decide) ?_
        refine r_iadd dX11_nextToken_227 (w32_id (by omega)) ?_
        refine r_pi 7 dX11_nextToken_228 fpX11_95 sf429 (by decide) (by decide) rfl rfl ?_
        refine V.cm rfl tk_7 ?_
        refine r_goto (tgt := 168) dX11_nextToken_231 (by decide) ?_
        exfalso; omega
      · replace h192 := lc_ne.mp h192
        refine r_ldc2 (x := 1152921504606846976) dX11_nextToken_195 ctX11_122 (by decide) ?_
        refine r_goto (tgt := 218) dX11_nextToken_198 (by decide) ?_
        refine r_pl 11 dX11_nextToken_218 fpX11_118 sf429 (by decide) (by decide) rfl rfl ?_
        refine V.cm rfl tk_11 ?_
        refine r_aload_n dX11_nextToken_221 rfl (by decide) ?_
        refine r_dup dX11_nextToken_222 (Nat.ne_of_beq_eq_false rfl) ?_
        refine r_gi 7 dX11_nextToken_223 flX11_95 sf429 (by decide) (by decide) rfl rfl tk_r7 ?_
        refine r_iconst dX11_nextToken_226 (by decide) ?_
        refine r_iadd dX11_nextToken_227 (w32_id (by omega)) ?_
        refine r_pi 7 dX11_nextToken_228 fpX11_95 sf429 (by decide) (by decide) rfl rfl ?_
        refine V.cm rfl tk_7 ?_
        refine r_goto (tgt := 168) dX11_nextToken_231 (by decide) ?_
        exfalso; omega
  | succ f ih =>
    intro i w h0 hf hc
    refine r_aload_n dX11_nextToken_168 rfl (by decide) ?_
    refine r_aload_n dX11_nextToken_169 rfl (by decide) ?_
    refine r_gi 7 dX11_nextToken_170 flX11_95 sf429 (by decide) (by decide) rfl rfl tk_r7 ?_
    refine r_cv1 dX11_nextToken_173 clX11_98 sf429 (by decide) (by decide) rfl (by first | decide | omega) (Nat.le_of_ble_eq_true rfl) ((c_byteAt (by omega) (by rw [tk_o (by omega)]; omega))) ⟨Nat.zero_le _, Nat.zero_le _⟩ (fun _ => ?_)
    rw [bta_tk]
    refine r_cs1 dX11_nextToken_176 clX11_115 (by first | decide | omega) (Nat.le_of_ble_eq_true rfl) (c_isLetter) ⟨Nat.zero_le _, Nat.zero_le _⟩ (fun _ => ?_)
    refine r_if_eq (tgt := 310) dX11_nextToken_179 (by decide) (fun h179 => ?_) (fun h179 => ?_)
    · try have h179 := bi_0.mp h179
      exact (by rw [show woS M (f + 1) i w = (i, w) from if_neg (by omega)] at hc; exact hc)
    · try have h179 := bi_1.mp h179
      refine r_aload_n dX11_nextToken_182 rfl (by decide) ?_
      refine r_aload_n dX11_nextToken_183 rfl (by decide) ?_
      refine r_gl 11 dX11_nextToken_184 flX11_118 sf429 (by decide) (by decide) rfl rfl tk_r11 ?_
      refine r_bipush dX11_nextToken_187 (by decide) (by decide) ?_
      refine r_lshr dX11_nextToken_189 rfl ?_
      refine r_lconst (x := 0) dX11_nextToken_190 rfl (by decide) ?_
      refine r_lcmp dX11_nextToken_191 ?_
      refine r_if_eq (tgt := 201) dX11_nextToken_192 (by decide) (fun h192 => ?_) (fun h192 => ?_)
      · replace h192 := lc_eq.mp h192
        refine r_aload_n dX11_nextToken_201 rfl (by decide) ?_
        refine r_gl 11 dX11_nextToken_202 flX11_118 sf429 (by decide) (by decide) rfl rfl tk_r11 ?_
        refine r_bipush dX11_nextToken_205 (by decide) (by decide) ?_
        refine r_lshl dX11_nextToken_207 rfl ?_
        refine r_aload_n dX11_nextToken_208 rfl (by decide) ?_
        refine r_aload_n dX11_nextToken_209 rfl (by decide) ?_
        refine r_gi 7 dX11_nextToken_210 flX11_95 sf429 (by decide) (by decide) rfl rfl tk_r7 ?_
        refine r_cv1 dX11_nextToken_213 clX11_98 sf429 (by decide) (by decide) rfl (by first | decide | omega) (Nat.le_of_ble_eq_true rfl) ((c_byteAt (by omega) (by rw [tk_o (by omega)]; omega))) ⟨Nat.zero_le _, Nat.zero_le _⟩ (fun _ => ?_)
        rw [bta_tk]
        refine r_i2l dX11_nextToken_216 ?_
        refine r_lor dX11_nextToken_217 rfl ?_
        refine r_pl 11 dX11_nextToken_218 fpX11_118 sf429 (by decide) (by decide) rfl rfl ?_
        refine V.cm rfl tk_11 ?_
        refine r_aload_n dX11_nextToken_221 rfl (by decide) ?_
        refine r_dup dX11_nextToken_222 (Nat.ne_of_beq_eq_false rfl) ?_
        refine r_gi 7 dX11_nextToken_223 flX11_95 sf429 (by decide) (by decide) rfl rfl tk_r7 ?_
        refine r_iconst dX11_nextToken_226 (by decide) ?_
        refine r_iadd dX11_nextToken_227 (w32_id (by omega)) ?_
        refine r_pi 7 dX11_nextToken_228 fpX11_95 sf429 (by decide) (by decide) rfl rfl ?_
        refine V.cm rfl tk_7 ?_
        refine r_goto (tgt := 168) dX11_nextToken_231 (by decide) ?_
        exact ih (i + 1) _ (by omega) (by omega) (by first | (rw [show woS M (f + 1) i w = woS M f (i + 1) _ from (if_pos (by omega)).trans (congrArg _ (if_pos (by assumption)))] at hc; exact hc) | (rw [show woS M (f + 1) i w = woS M f (i + 1) _ from (if_pos (by omega)).trans (congrArg _ (if_neg (by assumption)))] at hc; exact hc))
      · replace h192 := lc_ne.mp h192
        refine r_ldc2 (x := 1152921504606846976) dX11_nextToken_195 ctX11_122 (by decide) ?_
        refine r_goto (tgt := 218) dX11_nextToken_198 (by decide) ?_
        refine r_pl 11 dX11_nextToken_218 fpX11_118 sf429 (by decide) (by decide) rfl rfl ?_
        refine V.cm rfl tk_11 ?_
        refine r_aload_n dX11_nextToken_221 rfl (by decide) ?_
        refine r_dup dX11_nextToken_222 (Nat.ne_of_beq_eq_false rfl) ?_
        refine r_gi 7 dX11_nextToken_223 flX11_95 sf429 (by decide) (by decide) rfl rfl tk_r7 ?_
        refine r_iconst dX11_nextToken_226 (by decide) ?_
        refine r_iadd dX11_nextToken_227 (w32_id (by omega)) ?_
        refine r_pi 7 dX11_nextToken_228 fpX11_95 sf429 (by decide) (by decide) rfl rfl ?_
        refine V.cm rfl tk_7 ?_
        refine r_goto (tgt := 168) dX11_nextToken_231 (by decide) ?_
        exact ih (i + 1) _ (by omega) (by omega) (by first | (rw [show woS M (f + 1) i w = woS M f (i + 1) _ from (if_pos (by omega)).trans (congrArg _ (if_pos (by assumption)))] at hc; exact hc) | (rw [show woS M (f + 1) i w = woS M f (i + 1) _ from (if_pos (by omega)).trans (congrArg _ (if_neg (by assumption)))] at hc; exact hc))
theorem l_token {x y z : Int} {M : Me} {n : Nat} (h4 : M 429 4 = (n : Int)) (hn : n ≤ 300) {st kd s : Int} {l1 : AV} (h0 : 0 ≤ s) (hs : s ≤ n) : V kX11_nextToken 0 0 1 none (Ex none (Sf x y z) (nxtS M n s)) 39 [(1, 429), l1] [] (Sf x y z) (tkM M s st kd (M 429 10) (M 429 11)) 0 0 := by
  have hl := fun h => bta_l (M := M) (i := s) h
  refine r_aload_n dX11_nextToken_39 rfl (by decide) ?_
  refine r_aload_n dX11_nextToken_40 rfl (by decide) ?_
  refine r_gi 7 dX11_nextToken_41 flX11_95 sf429 (by decide) (by decide) rfl rfl tk_r7 ?_
  refine r_pi 8 dX11_nextToken_44 fpX11_102 sf429 (by decide) (by decide) rfl rfl ?_
  refine V.cm rfl tk_8 ?_
  refine r_aload_n dX11_nextToken_47 rfl (by decide) ?_
  refine r_aload_n dX11_nextToken_48 rfl (by decide) ?_
  refine r_gi 7 dX11_nextToken_49 flX11_95 sf429 (by decide) (by decide) rfl rfl tk_r7 ?_
  refine r_cv1 dX11_nextToken_52 clX11_98 sf429 (by decide) (by decide) rfl (by first | decide | omega) (Nat.le_of_ble_eq_true rfl) ((c_byteAt (by omega) (by rw [tk_o (by omega)]; omega))) ⟨Nat.zero_le _, Nat.zero_le _⟩ (fun _ => ?_)
  rw [bta_tk]
  refine r_istore_n dX11_nextToken_55 rfl (by decide) st1 ?_
  refine r_iload_n dX11_nextToken_56 rfl ?_
  refine r_if_ge (tgt := 68) dX11_nextToken_57 (by decide) (fun h57 => ?_) (fun h57 => ?_)
  · refine r_iload_n dX11_nextToken_68 rfl ?_
    refine r_cs1 dX11_nextToken_69 clX11_108 (by first | decide | omega) (Nat.le_of_ble_eq_true rfl) (c_isFigure) ⟨Nat.zero_le _, Nat.zero_le _⟩ (fun _ => ?_)
    refine r_if_eq (tgt := 151) dX11_nextToken_72 (by decide) (fun h72 => ?_) (fun h72 => ?_)
    · try have h72 := bi_0.mp h72
      refine r_iload_n dX11_nextToken_151 rfl ?_
      refine r_cs1 dX11_nextToken_152 clX11_115 (by first | decide | omega) (Nat.le_of_ble_eq_true rfl) (c_isLetter) ⟨Nat.zero_le _, Nat.zero_le _⟩ (fun _ => ?_)
      refine r_if_eq (tgt := 234) dX11_nextToken_155 (by decide) (fun h155 => ?_) (fun h155 => ?_)
      · try have h155 := bi_0.mp h155
        refine r_aload_n dX11_nextToken_234 rfl (by decide) ?_
        refine r_iload_n dX11_nextToken_235 rfl ?_
        refine r_cs1 dX11_nextToken_236 clX11_124 (by first | decide | omega) (Nat.le_of_ble_eq_true rfl) (c_isSign) ⟨Nat.zero_le _, Nat.zero_le _⟩ (fun _ => ?_)
        refine r_if_eq (tgt := 246) dX11_nextToken_239 (by decide) (fun h239 => ?_) (fun h239 => ?_)
        · try have h239 := bi_0.mp h239
          refine r_iconst dX11_nextToken_246 (by decide) ?_
          refine r_pi 9 dX11_nextToken_247 fpX11_105 sf429 (by decide) (by decide) rfl rfl ?_
          refine V.cm rfl tk_9 ?_
          refine r_aload_n dX11_nextToken_250 rfl (by decide) ?_
          refine r_dup dX11_nextToken_251 (Nat.ne_of_beq_eq_false rfl) ?_
          refine r_gi 7 dX11_nextToken_252 flX11_95 sf429 (by decide) (by decide) rfl rfl tk_r7 ?_
          refine r_iconst dX11_nextToken_255 (by decide) ?_
          refine r_iadd dX11_nextToken_256 (w32_id (by omega)) ?_
          refine r_pi 7 dX11_nextToken_257 fpX11_95 sf429 (by decide) (by decide) rfl rfl ?_
          refine V.cm rfl tk_7 ?_
          refine r_iload_n dX11_nextToken_260 rfl ?_
          refine r_bipush dX11_nextToken_261 (by decide) (by decide) ?_
          refine r_icmp_eq (tgt := 272) dX11_nextToken_263 (by decide) (fun h263 => ?_) (fun h263 => ?_)
          · refine r_aload_n dX11_nextToken_272 rfl (by decide) ?_
            refine r_aload_n dX11_nextToken_273 rfl (by decide) ?_
            refine r_gi 7 dX11_nextToken_274 flX11_95 sf429 (by decide) (by decide) rfl rfl tk_r7 ?_
            refine r_cv1 dX11_nextToken_277 clX11_98 sf429 (by decide) (by decide) rfl (by first | decide | omega) (Nat.le_of_ble_eq_true rfl) ((c_byteAt (by omega) (by rw [tk_o (by omega)]; omega))) ⟨Nat.zero_le _, Nat.zero_le _⟩ (fun _ => ?_)
            rw [bta_tk]
            refine r_bipush dX11_nextToken_280 (by decide) (by decide) ?_
            refine r_icmp_ne (tgt := 310) dX11_nextToken_282 (by decide) (fun h282 => ?_) (fun h282 => ?_)
            · refine r_ret0 dX11_nextToken_310 rfl ?_
              refine ⟨rfl, rfl, ?_⟩
              unfold nxtS
              first | (rw [if_pos (by omega)]; done) | (rw [if_neg (by omega), if_neg (by omega), if_neg (by omega), if_pos (by omega)]; done) | (rw [if_neg (by omega), if_neg (by omega), if_neg (by omega), if_neg (by omega), if_pos (by omega)]; done) | (rw [if_neg (by omega), if_neg (by omega), if_neg (by omega), if_neg (by omega), if_neg (by omega), if_pos (by omega)]; done) | (rw [if_neg (by omega), if_neg (by omega), if_neg (by omega), if_neg (by omega), if_neg (by omega), if_neg (by omega)]; done)
            · refine r_aload_n dX11_nextToken_285 rfl (by decide) ?_
              refine r_iload_n dX11_nextToken_286 rfl ?_
              refine r_bipush dX11_nextToken_287 (by decide) (by decide) ?_
              refine r_icmp_ne (tgt := 296) dX11_nextToken_289 (by decide) (fun h289 => ?_) (fun h289 => ?_)
              · refine r_iconst dX11_nextToken_296 (by decide) ?_
                refine r_pi 9 dX11_nextToken_297 fpX11_105 sf429 (by decide) (by decide) rfl rfl ?_
                refine V.cm rfl tk_9 ?_
                refine r_aload_n dX11_nextToken_300 rfl (by decide) ?_
                refine r_dup dX11_nextToken_301 (Nat.ne_of_beq_eq_false rfl) ?_
                refine r_gi 7 dX11_nextToken_302 flX11_95 sf429 (by decide) (by decide) rfl rfl tk_r7 ?_
                refine r_iconst dX11_nextToken_305 (by decide) ?_
                refine r_iadd dX11_nextToken_306 (w32_id (by omega)) ?_
                refine r_pi 7 dX11_nextToken_307 fpX11_95 sf429 (by decide) (by decide) rfl rfl ?_
                refine V.cm rfl tk_7 ?_
                refine r_ret0 dX11_nextToken_310 rfl ?_
                refine ⟨rfl, rfl, ?_⟩
                unfold nxtS
                first | (rw [if_pos (by omega)]; done) | (rw [if_neg (by omega), if_neg (by omega), if_neg (by omega), if_pos (by omega)]; done) | (rw [if_neg (by omega), if_neg (by omega), if_neg (by omega), if_neg (by omega), if_pos (by omega)]; done) | (rw [if_neg (by omega), if_neg (by omega), if_neg (by omega), if_neg (by omega), if_neg (by omega), if_pos (by omega)]; done) | (rw [if_neg (by omega), if_neg (by omega), if_neg (by omega), if_neg (by omega), if_neg (by omega), if_neg (by omega)]; done)
              · refine r_iconst dX11_nextToken_292 (by decide) ?_
                refine r_goto (tgt := 297) dX11_nextToken_293 (by decide) ?_
                refine r_pi 9 dX11_nextToken_297 fpX11_105 sf429 (by decide) (by decide) rfl rfl ?_
                refine V.cm rfl tk_9 ?_
                refine r_aload_n dX11_nextToken_300 rfl (by decide) ?_
                refine r_dup dX11_nextToken_301 (Nat.ne_of_beq_eq_false rfl) ?_
                refine r_gi 7 dX11_nextToken_302 flX11_95 sf429 (by decide) (by decide) rfl rfl tk_r7 ?_
                refine r_iconst dX11_nextToken_305 (by decide) ?_
                refine r_iadd dX11_nextToken_306 (w32_id (by omega)) ?_
                refine r_pi 7 dX11_nextToken_307 fpX11_95 sf429 (by decide) (by decide) rfl rfl ?_
                refine V.cm rfl tk_7 ?_
                refine r_ret0 dX11_nextToken_310 rfl ?_
                refine ⟨rfl, rfl, ?_⟩
                unfold nxtS
                first | (rw [if_pos (by omega)]; done) | (rw [if_neg (by omega), if_neg (by omega), if_neg (by omega), if_pos (by omega)]; done) | (rw [if_neg (by omega), if_neg (by omega), if_neg (by omega), if_neg (by omega), if_pos (by omega)]; done) | (rw [if_neg (by omega), if_neg (by omega), if_neg (by omega), if_neg (by omega), if_neg (by omega), if_pos (by omega)]; done) | (rw [if_neg (by omega), if_neg (by omega), if_neg (by omega), if_neg (by omega), if_neg (by omega), if_neg (by omega)]; done)
          · refine r_iload_n dX11_nextToken_266 rfl ?_
            refine r_bipush dX11_nextToken_267 (by decide) (by decide) ?_
            refine r_icmp_ne (tgt := 310) dX11_nextToken_269 (by decide) (fun h269 => ?_) (fun h269 => ?_)
            · refine r_ret0 dX11_nextToken_310 rfl ?_
              refine ⟨rfl, rfl, ?_⟩
              unfold nxtS
              first | (rw [if_pos (by omega)]; done) | (rw [if_neg (by omega), if_neg (by omega), if_neg (by omega), if_pos (by omega)]; done) | (rw [if_neg (by omega), if_neg (by omega), if_neg (by omega), if_neg (by omega), if_pos (by omega)]; done) | (rw [if_neg (by omega), if_neg (by omega), if_neg (by omega), if_neg (by omega), if_neg (by omega), if_pos (by omega)]; done) | (rw [if_neg (by omega), if_neg (by omega), if_neg (by omega), if_neg (by omega), if_neg (by omega), if_neg (by omega)]; done)
            · refine r_aload_n dX11_nextToken_272 rfl (by decide) ?_
              refine r_aload_n dX11_nextToken_273 rfl (by decide) ?_
              refine r_gi 7 dX11_nextToken_274 flX11_95 sf429 (by decide) (by decide) rfl rfl tk_r7 ?_
              refine r_cv1 dX11_nextToken_277 clX11_98 sf429 (by decide) (by decide) rfl (by first | decide | omega) (Nat.le_of_ble_eq_true rfl) ((c_byteAt (by omega) (by rw [tk_o (by omega)]; omega))) ⟨Nat.zero_le _, Nat.zero_le _⟩ (fun _ => ?_)
              rw [bta_tk]
              refine r_bipush dX11_nextToken_280 (by decide) (by decide) ?_
              refine r_icmp_ne (tgt := 310) dX11_nextToken_282 (by decide) (fun h282 => ?_) (fun h282 => ?_)
              · refine r_ret0 dX11_nextToken_310 rfl ?_
                refine ⟨rfl, rfl, ?_⟩
                unfold nxtS
                first | (rw [if_pos (by omega)]; done) | (rw [if_neg (by omega), if_neg (by omega), if_neg (by omega), if_pos (by omega)]; done) | (rw [if_neg (by omega), if_neg (by omega), if_neg (by omega), if_neg (by omega), if_pos (by omega)]; done) | (rw [if_neg (by omega), if_neg (by omega), if_neg (by omega), if_neg (by omega), if_neg (by omega), if_pos (by omega)]; done) | (rw [if_neg (by omega), if_neg (by omega), if_neg (by omega), if_neg (by omega), if_neg (by omega), if_neg (by omega)]; done)
              · refine r_aload_n dX11_nextToken_285 rfl (by decide) ?_
                refine r_iload_n dX11_nextToken_286 rfl ?_
                refine r_bipush dX11_nextToken_287 (by decide) (by decide) ?_
                refine r_icmp_ne (tgt := 296) dX11_nextToken_289 (by decide) (fun h289 => ?_) (fun h289 => ?_)
                · refine r_iconst dX11_nextToken_296 (by decide) ?_
                  refine r_pi 9 dX11_nextToken_297 fpX11_105 sf429 (by decide) (by decide) rfl rfl ?_
                  refine V.cm rfl tk_9 ?_
                  refine r_aload_n dX11_nextToken_300 rfl (by decide) ?_
                  refine r_dup dX11_nextToken_301 (Nat.ne_of_beq_eq_false rfl) ?_
                  refine r_gi 7 dX11_nextToken_302 flX11_95 sf429 (by decide) (by decide) rfl rfl tk_r7 ?_
                  refine r_iconst dX11_nextToken_305 (by decide) ?_
                  refine r_iadd dX11_nextToken_306 (w32_id (by omega)) ?_
                  refine r_pi 7 dX11_nextToken_307 fpX11_95 sf429 (by decide) (by decide) rfl rfl ?_
                  refine V.cm rfl tk_7 ?_
                  refine r_ret0 dX11_nextToken_310 rfl ?_
                  refine ⟨rfl, rfl, ?_⟩
                  unfold nxtS
                  first | (rw [if_pos (by omega)]; done) | (rw [if_neg (by omega), if_neg (by omega), if_neg (by omega), if_pos (by omega)]; done) | (rw [if_neg (by omega), if_neg (by omega), if_neg (by omega), if_neg (by omega), if_pos (by omega)]; done) | (rw [if_neg (by omega), if_neg (by omega), if_neg (by omega), if_neg (by omega), if_neg (by omega), if_pos (by omega)]; done) | (rw [if_neg (by omega), if_neg (by omega), if_neg (by omega), if_neg (by omega), if_neg (by omega), if_neg (by omega)]; done)
                · refine r_iconst dX11_nextToken_292 (by decide) ?_
                  refine r_goto (tgt := 297) dX11_nextToken_293 (by decide) ?_
                  refine r_pi 9 dX11_nextToken_297 fpX11_105 sf429 (by decide) (by decide) rfl rfl ?_
                  refine V.cm rfl tk_9 ?_
                  refine r_aload_n dX11_nextToken_300 rfl (by decide) ?_
                  refine r_dup dX11_nextToken_301 (Nat.ne_of_beq_eq_false rfl) ?_
                  refine r_gi 7 dX11_nextToken_302 flX11_95 sf429 (by decide) (by decide) rfl rfl tk_r7 ?_
                  refine r_iconst dX11_nextToken_305 (by decide) ?_
                  refine r_iadd dX11_nextToken_306 (w32_id (by omega)) ?_
                  refine r_pi 7 dX11_nextToken_307 fpX11_95 sf429 (by decide) (by decide) rfl rfl ?_
                  refine V.cm rfl tk_7 ?_
                  refine r_ret0 dX11_nextToken_310 rfl ?_
                  refine ⟨rfl, rfl, ?_⟩
                  unfold nxtS
                  first | (rw [if_pos (by omega)]; done) | (rw [if_neg (by omega), if_neg (by omega), if_neg (by omega), if_pos (by omega)]; done) | (rw [if_neg (by omega), if_neg (by omega), if_neg (by omega), if_neg (by omega), if_pos (by omega)]; done) | (rw [if_neg (by omega), if_neg (by omega), if_neg (by omega), if_neg (by omega), if_neg (by omega), if_pos (by omega)]; done) | (rw [if_neg (by omega), if_neg (by omega), if_neg (by omega), if_neg (by omega), if_neg (by omega), if_neg (by omega)]; done)
        · try have h239 := bi_1.mp h239
          refine r_iload_n dX11_nextToken_242 rfl ?_
          refine r_goto (tgt := 247) dX11_nextToken_243 (by decide) ?_
          refine r_pi 9 dX11_nextToken_247 fpX11_105 sf429 (by decide) (by decide) rfl rfl ?_
          refine V.cm rfl tk_9 ?_
          refine r_aload_n dX11_nextToken_250 rfl (by decide) ?_
          refine r_dup dX11_nextToken_251 (Nat.ne_of_beq_eq_false rfl) ?_
          refine r_gi 7 dX11_nextToken_252 flX11_95 sf429 (by decide) (by decide) rfl rfl tk_r7 ?_
          refine r_iconst dX11_nextToken_255 (by decide) ?_
          refine r_iadd dX11_nextToken_256 (w32_id (by omega)) ?_
          refine r_pi 7 dX11_nextToken_257 fpX11_95 sf429 (by decide) (by decide) rfl rfl ?_
          refine V.cm rfl tk_7 ?_
          refine r_iload_n dX11_nextToken_260 rfl ?_
          refine r_bipush dX11_nextToken_261 (by decide) (by decide) ?_
          refine r_icmp_eq (tgt := 272) dX11_nextToken_263 (by decide) (fun h263 => ?_) (fun h263 => ?_)
          · refine r_aload_n dX11_nextToken_272 rfl (by decide) ?_
            refine r_aload_n dX11_nextToken_273 rfl (by decide) ?_
            refine r_gi 7 dX11_nextToken_274 flX11_95 sf429 (by decide) (by decide) rfl rfl tk_r7 ?_
            refine r_cv1 dX11_nextToken_277 clX11_98 sf429 (by decide) (by decide) rfl (by first | decide | omega) (Nat.le_of_ble_eq_true rfl) ((c_byteAt (by omega) (by rw [tk_o (by omega)]; omega))) ⟨Nat.zero_le _, Nat.zero_le _⟩ (fun _ => ?_)
            rw [bta_tk]
            refine r_bipush dX11_nextToken_280 (by decide) (by decide) ?_
            refine r_icmp_ne (tgt := 310) dX11_nextToken_282 (by decide) (fun h282 => ?_) (fun h282 => ?_)
            · refine r_ret0 dX11_nextToken_310 rfl ?_
              refine ⟨rfl, rfl, ?_⟩
              unfold nxtS
              first | (rw [if_pos (by omega)]; done) | (rw [if_neg (by omega), if_neg (by omega), if_neg (by omega), if_pos (by omega)]; done) | (rw [if_neg (by omega), if_neg (by omega), if_neg (by omega), if_neg (by omega), if_pos (by omega)]; done) | (rw [if_neg (by omega), if_neg (by omega), if_neg (by omega), if_neg (by omega), if_neg (by omega), if_pos (by omega)]; done) | (rw [if_neg (by omega), if_neg (by omega), if_neg (by omega), if_neg (by omega), if_neg (by omega), if_neg (by omega)]; done)
            · refine r_aload_n dX11_nextToken_285 rfl (by decide) ?_
              refine r_iload_n dX11_nextToken_286 rfl ?_
              refine r_bipush dX11_nextToken_287 (by decide) (by decide) ?_
              refine r_icmp_ne (tgt := 296) dX11_nextToken_289 (by decide) (fun h289 => ?_) (fun h289 => ?_)
              · refine r_iconst dX11_nextToken_296 (by decide) ?_
                refine r_pi 9 dX11_nextToken_297 fpX11_105 sf429 (by decide) (by decide) rfl rfl ?_
                refine V.cm rfl tk_9 ?_
                refine r_aload_n dX11_nextToken_300 rfl (by decide) ?_
                refine r_dup dX11_nextToken_301 (Nat.ne_of_beq_eq_false rfl) ?_
                refine r_gi 7 dX11_nextToken_302 flX11_95 sf429 (by decide) (by decide) rfl rfl tk_r7 ?_
                refine r_iconst dX11_nextToken_305 (by decide) ?_
                refine r_iadd dX11_nextToken_306 (w32_id (by omega)) ?_
                refine r_pi 7 dX11_nextToken_307 fpX11_95 sf429 (by decide) (by decide) rfl rfl ?_
                refine V.cm rfl tk_7 ?_
                refine r_ret0 dX11_nextToken_310 rfl ?_
                refine ⟨rfl, rfl, ?_⟩
                unfold nxtS
                first | (rw [if_pos (by omega)]; done) | (rw [if_neg (by omega), if_neg (by omega), if_neg (by omega), if_pos (by omega)]; done) | (rw [if_neg (by omega), if_neg (by omega), if_neg (by omega), if_neg (by omega), if_pos (by omega)]; done) | (rw [if_neg (by omega), if_neg (by omega), if_neg (by omega), if_neg (by omega), if_neg (by omega), if_pos (by omega)]; done) | (rw [if_neg (by omega), if_neg (by omega), if_neg (by omega), if_neg (by omega), if_neg (by omega), if_neg (by omega)]; done)
              · refine r_iconst dX11_nextToken_292 (by decide) ?_
                refine r_goto (tgt := 297) dX11_nextToken_293 (by decide) ?_
                refine r_pi 9 dX11_nextToken_297 fpX11_105 sf429 (by decide) (by decide) rfl rfl ?_
                refine V.cm rfl tk_9 ?_
                refine r_aload_n dX11_nextToken_300 rfl (by decide) ?_
                refine r_dup dX11_nextToken_301 (Nat.ne_of_beq_eq_false rfl) ?_
                refine r_gi 7 dX11_nextToken_302 flX11_95 sf429 (by decide) (by decide) rfl rfl tk_r7 ?_
                refine r_iconst dX11_nextToken_305 (by decide) ?_
                refine r_iadd dX11_nextToken_306 (w32_id (by omega)) ?_
                refine r_pi 7 dX11_nextToken_307 fpX11_95 sf429 (by decide) (by decide) rfl rfl ?_
                refine V.cm rfl tk_7 ?_
                refine r_ret0 dX11_nextToken_310 rfl ?_
                refine ⟨rfl, rfl, ?_⟩
                unfold nxtS
                first | (rw [if_pos (by omega)]; done) | (rw [if_neg (by omega), if_neg (by omega), if_neg (by omega), if_pos (by omega)]; done) | (rw [if_neg (by omega), if_neg (by omega), if_neg (by omega), if_neg (by omega), if_pos (by omega)]; done) | (rw [if_neg (by omega), if_neg (by omega), if_neg (by omega), if_neg (by omega), if_neg (by omega), if_pos (by omega)]; done) | (rw [if_neg (by omega), if_neg (by omega), if_neg (by omega), if_neg (by omega), if_neg (by omega), if_neg (by omega)]; done)
          · refine r_iload_n dX11_nextToken_266 rfl ?_
            refine r_bipush dX11_nextToken_267 (by decide) (by decide) ?_
            refine r_icmp_ne (tgt := 310) dX11_nextToken_269 (by decide) (fun h269 => ?_) (fun h269 => ?_)
            · refine r_ret0 dX11_nextToken_310 rfl ?_
              refine ⟨rfl, rfl, ?_⟩
              unfold nxtS
              first | (rw [if_pos (by omega)]; done) | (rw [if_neg (by omega), if_neg (by omega), if_neg (by omega), if_pos (by omega)]; done) | (rw [if_neg (by omega), if_neg (by omega), if_neg (by omega), if_neg (by omega), if_pos (by omega)]; done) | (rw [if_neg (by omega), if_neg (by omega), if_neg (by omega), if_neg (by omega), if_neg (by omega), if_pos (by omega)]; done) | (rw [if_neg (by omega), if_neg (by omega), if_neg (by omega), if_neg (by omega), if_neg (by omega), if_neg (by omega)]; done)
            · refine r_aload_n dX11_nextToken_272 rfl (by decide) ?_
              refine r_aload_n dX11_nextToken_273 rfl (by decide) ?_
              refine r_gi 7 dX11_nextToken_274 flX11_95 sf429 (by decide) (by decide) rfl rfl tk_r7 ?_
              refine r_cv1 dX11_nextToken_277 clX11_98 sf429 (by decide) (by decide) rfl (by first | decide | omega) (Nat.le_of_ble_eq_true rfl) ((c_byteAt (by omega) (by rw [tk_o (by omega)]; omega))) ⟨Nat.zero_le _, Nat.zero_le _⟩ (fun _ => ?_)
              rw [bta_tk]
              refine r_bipush dX11_nextToken_280 (by decide) (by decide) ?_
              refine r_icmp_ne (tgt := 310) dX11_nextToken_282 (by decide) (fun h282 => ?_) (fun h282 => ?_)
              · refine r_ret0 dX11_nextToken_310 rfl ?_
                refine ⟨rfl, rfl, ?_⟩
                unfold nxtS
                first | (rw [if_pos (by omega)]; done) | (rw [if_neg (by omega), if_neg (by omega), if_neg (by omega), if_pos (by omega)]; done) | (rw [if_neg (by omega), if_neg (by omega), if_neg (by omega), if_neg (by omega), if_pos (by omega)]; done) | (rw [if_neg (by omega), if_neg (by omega), if_neg (by omega), if_neg (by omega), if_neg (by omega), if_pos (by omega)]; done) | (rw [if_neg (by omega), if_neg (by omega), if_neg (by omega), if_neg (by omega), if_neg (by omega), if_neg (by omega)]; done)
              · refine r_aload_n dX11_nextToken_285 rfl (by decide) ?_
                refine r_iload_n dX11_nextToken_286 rfl ?_
                refine r_bipush dX11_nextToken_287 (by decide) (by decide) ?_
                refine r_icmp_ne (tgt := 296) dX11_nextToken_289 (by decide) (fun h289 => ?_) (fun h289 => ?_)
                · refine r_iconst dX11_nextToken_296 (by decide) ?_
                  refine r_pi 9 dX11_nextToken_297 fpX11_105 sf429 (by decide) (by decide) rfl rfl ?_
                  refine V.cm rfl tk_9 ?_
                  refine r_aload_n dX11_nextToken_300 rfl (by decide) ?_
                  refine r_dup dX11_nextToken_301 (Nat.ne_of_beq_eq_false rfl) ?_
                  refine r_gi 7 dX11_nextToken_302 flX11_95 sf429 (by decide) (by decide) rfl rfl tk_r7 ?_
                  refine r_iconst dX11_nextToken_305 (by decide) ?_
                  refine r_iadd dX11_nextToken_306 (w32_id (by omega)) ?_
                  refine r_pi 7 dX11_nextToken_307 fpX11_95 sf429 (by decide) (by decide) rfl rfl ?_
                  refine V.cm rfl tk_7 ?_
                  refine r_ret0 dX11_nextToken_310 rfl ?_
                  refine ⟨rfl, rfl, ?_⟩
                  unfold nxtS
                  first | (rw [if_pos (by omega)]; done) | (rw [if_neg (by omega), if_neg (by omega), if_neg (by omega), if_pos (by omega)]; done) | (rw [if_neg (by omega), if_neg (by omega), if_neg (by omega), if_neg (by omega), if_pos (by omega)]; done) | (rw [if_neg (by omega), if_neg (by omega), if_neg (by omega), if_neg (by omega), if_neg (by omega), if_pos (by omega)]; done) | (rw [if_neg (by omega), if_neg (by omega), if_neg (by omega), if_neg (by omega), if_neg (by omega), if_neg (by omega)]; done)
                · refine r_iconst dX11_nextToken_292 (by decide) ?_
                  refine r_goto (tgt := 297) dX11_nextToken_293 (by decide) ?_
                  refine r_pi 9 dX11_nextToken_297 fpX11_105 sf429 (by decide) (by decide) rfl rfl ?_
                  refine V.cm rfl tk_9 ?_
                  refine r_aload_n dX11_nextToken_300 rfl (by decide) ?_
                  refine r_dup dX11_nextToken_301 (Nat.ne_of_beq_eq_false rfl) ?_
                  refine r_gi 7 dX11_nextToken_302 flX11_95 sf429 (by decide) (by decide) rfl rfl tk_r7 ?_
                  refine r_iconst dX11_nextToken_305 (by decide) ?_
                  refine r_iadd dX11_nextToken_306 (w32_id (by omega)) ?_
                  refine r_pi 7 dX11_nextToken_307 fpX11_95 sf429 (by decide) (by decide) rfl rfl ?_
                  refine V.cm rfl tk_7 ?_
                  refine r_ret0 dX11_nextToken_310 rfl ?_
                  refine ⟨rfl, rfl, ?_⟩
                  unfold nxtS
                  first | (rw [if_pos (by omega)]; done) | (rw [if_neg (by omega), if_neg (by omega), if_neg (by omega), if_pos (by omega)]; done) | (rw [if_neg (by omega), if_neg (by omega), if_neg (by omega), if_neg (by omega), if_pos (by omega)]; done) | (rw [if_neg (by omega), if_neg (by omega), if_neg (by omega), if_neg (by omega), if_neg (by omega), if_pos (by omega)]; done) | (rw [if_neg (by omega), if_neg (by omega), if_neg (by omega), if_neg (by omega), if_neg (by omega), if_neg (by omega)]; done)
      · try have h155 := bi_1.mp h155
        refine r_aload_n dX11_nextToken_158 rfl (by decide) ?_
        refine r_iconst dX11_nextToken_159 (by decide) ?_
        refine r_pi 9 dX11_nextToken_160 fpX11_105 sf429 (by decide) (by decide) rfl rfl ?_
        refine V.cm rfl tk_9 ?_
        refine r_aload_n dX11_nextToken_163 rfl (by decide) ?_
        refine r_lconst (x := 0) dX11_nextToken_164 rfl (by decide) ?_
        refine r_pl 11 dX11_nextToken_165 fpX11_118 sf429 (by decide) (by decide) rfl rfl ?_
        refine V.cm rfl tk_11 ?_
        refine l_word (wd := 0) h4 hn (n - s).toNat s 0 (by omega) (by omega) ?_
        refine r_ret0 dX11_nextToken_310 rfl ?_
        exact ⟨rfl, rfl, by unfold nxtS; rw [if_neg (by omega), if_neg (by omega), if_pos (by omega)]⟩
    · try have h72 := bi_1.mp h72
      refine r_aload_n dX11_nextToken_75 rfl (by decide) ?_
      refine r_iconst dX11_nextToken_76 (by decide) ?_
      refine r_pi 9 dX11_nextToken_77 fpX11_105 sf429 (by decide) (by decide) rfl rfl ?_
      refine V.cm rfl tk_9 ?_
      refine r_aload_n dX11_nextToken_80 rfl (by decide) ?_
      refine r_iconst dX11_nextToken_81 (by decide) ?_
      refine r_pi 10 dX11_nextToken_82 fpX11_111 sf429 (by decide) (by decide) rfl rfl ?_
      refine V.cm rfl tk_10 ?_
      refine l_number (nb := 0) h4 hn (n - s).toNat s 0 (by omega) (by omega) (by decide) ?_
      refine r_ret0 dX11_nextToken_310 rfl ?_
      exact ⟨rfl, rfl, by unfold nxtS; rw [if_neg (by omega), if_pos (by omega)]⟩
  · refine r_aload_n dX11_nextToken_60 rfl (by decide) ?_
    refine r_iconst dX11_nextToken_61 (by decide) ?_
    refine r_pi 9 dX11_nextToken_62 fpX11_105 sf429 (by decide) (by decide) rfl rfl ?_
    refine V.cm rfl tk_9 ?_
    refine r_goto (tgt := 310) dX11_nextToken_65 (by decide) ?_
    refine r_ret0 dX11_nextToken_310 rfl ?_
    refine ⟨rfl, rfl, ?_⟩
    unfold nxtS
    first | (rw [if_pos (by omega)]; done) | (rw [if_neg (by omega), if_neg (by omega), if_neg (by omega), if_pos (by omega)]; done) | (rw [if_neg (by omega), if_neg (by omega), if_neg (by omega), if_neg (by omega), if_pos (by omega)]; done) | (rw [if_neg (by omega), if_neg (by omega), if_neg (by omega), if_neg (by omega), if_neg (by omega), if_pos (by omega)]; done) | (rw [if_neg (by omega), if_neg (by omega), if_neg (by omega), if_neg (by omega), if_neg (by omega), if_neg (by omega)]; done)
theorem m_nextToken {x y z : Int} {M : Me} {n : Nat} (h4 : M 429 4 = (n : Int)) (hn : n ≤ 300) (h7 : 0 ≤ M 429 7 ∧ M 429 7 ≤ n) : Con kX11_nextToken 1 0 0 [(1, 429)] (Sf x y z) M (Ex none (Sf x y z) (nxT M n)) := by
  have hb := skA_b (M := M) (n - M 429 7).toNat (M 429 7)
  refine Con.ofV (al := [(1, 429), (9, 0)]) 1 (by decide) (Nat.le_of_ble_eq_true rfl) rfl ?_
  refine V.cm rfl tk_id ?_
  exact l_skip h4 hn (n - M 429 7).toNat (M 429 7) h7.1 (by omega) (l_token h4 hn (by omega) (by omega))
