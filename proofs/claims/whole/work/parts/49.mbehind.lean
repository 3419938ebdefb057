/-- an operation put on the pile -/
def psM (M : Me) (o : Int) (n : Nat) : Me := nxT (up (up (up M 434 (M 429 16) o) 429 16 (M 429 16 + 1)) 429 18 0) n
def bhO (M : Me) (m : Nat) : Int := bwO (M 429 9) (M 429 11) (opn M m) (icS M m)
def bhP (M : Me) (m : Nat) : Int := paO (M 429 9) (M 429 11) (opn M m) (icS M m)
def bhR (M : Me) (m : Nat) : Int := if rnk (bhO M m) = 4 then 5 else rnk (bhO M m)
/-- all settled in what is open, and on -/
def bh1 (M : Me) (n m : Nat) : Me := nxT (stl M 1 m) n
/-- what is open shut -/
def bh2 (M : Me) (n m : Nat) : Me := up (up (bh1 M n m) 429 17 (bh1 M n m 429 17 - 1)) 429 16 (bh1 M n m 429 16 - 1)
def bh3 (M : Me) (n m : Nat) : Me := if opn M m = 43 then emA (bh2 M n m) 4 0 else bh2 M n m
def bhV (M : Me) (m : Nat) : Int := if 0 ≤ bhO M m then 1 else if bhP M m < 0 then 0 else 1
def bhM (M : Me) (n m : Nat) : Me := if 0 ≤ bhO M m then psM (stl M (bhR M m) m) (bhO M m) n else if bhP M m < 0 then M else if 0 < bhP M m then up (up (bh1 M n m) 434 (oaS (bh1 M n m) (stN M 1 m)) (bhP M m)) 429 18 0 else stl (bh3 M n m) 7 (stN M 1 m - 1)
theorem paO_0 {kd wd o ic : Int} (h : paO kd wd o ic = 0) : 40 ≤ o := by
  unfold paO at h
  (repeat' split at h) <;> omega
theorem paO_b {kd wd o ic : Int} : paO kd wd o ic ≤ 43 := by
  unfold paO
  (repeat' split) <;> omega
theorem opn_oa {M : Me} {m : Nat} (h : 40 ≤ opn M m) : 0 ≤ oaS M m := by
  unfold opn at h
  split at h <;> omega
theorem paO_p {kd wd o ic : Int} (h : 0 ≤ paO kd wd o ic) : 40 ≤ o := by
  unfold paO at h
  (repeat' split at h) <;> omega
theorem oaS_c {M N : Me} : ∀ i : Nat, (∀ j : Nat, j < i → N 434 j = M 434 j) → oaS N i = oaS M i := by
  intro i
  induction i with
  | zero => intro _; rfl
  | succ i ih =>
    intro h
    unfold oaS
    rw [h i (by omega), ih (fun j hj => h j (by omega))]
theorem icS_c {M N : Me} : ∀ i : Nat, (∀ j : Nat, j < i → N 434 j = M 434 j) → icS N i = icS M i := by
  intro i
  induction i with
  | zero => intro _; rfl
  | succ i ih =>
    intro h
    unfold icS
    rw [h i (by omega), ih (fun j hj => h j (by omega))]
theorem oaS_sN {M : Me} {r : Int} (hr : 1 ≤ r) : ∀ i : Nat, oaS M (stN M r i) = oaS M i := by
  intro i
  induction i with
  | zero => rfl
  | succ i ih =>
    by_cases h : r ≤ rnk (M 434 i)
    · rw [show stN M r (i + 1) = stN M r i from if_pos h, ih]
      have h0 : ¬ 40 ≤ M 434 i := fun q => by
        rw [show rnk (M 434 i) = 0 from if_pos q] at h; omega
      exact (oaS_f h0).symm
    · rw [show stN M r (i + 1) = i + 1 from if_neg h]
theorem bh1_f {M : Me} {n m : Nat} (h16 : M 429 16 = (m : Int)) : bh1 M n m 429 16 = (stN M 1 m : Int) ∧ bh1 M n m 429 13 + (stN M 1 m : Int) = M 429 13 + m ∧ (M 429 17 - (m - stN M 1 m : Int) ≤ bh1 M n m 429 17 ∧ bh1 M n m 429 17 ≤ M 429 17) ∧ ∀ a j : Int, a ≠ 432 → ¬ (a = 429 ∧ ((7 ≤ j ∧ j ≤ 11) ∨ j = 13 ∨ j = 16 ∨ j = 17)) → bh1 M n m a j = M a j := by
  obtain ⟨a1, a2, a3, a4⟩ := stl_all (r := 1) m M h16
  unfold bh1
  refine ⟨(nxT_o (by omega)).trans a1, ?_, ?_, fun a j p q => (nxT_o (by omega)).trans (a4 a j p (by omega))⟩
  · rw [nxT_o (by omega)]; exact a2
  · rw [nxT_o (by omega)]; exact a3
theorem bh1_oa {M : Me} {n m : Nat} (h16 : M 429 16 = (m : Int)) : oaS (bh1 M n m) (stN M 1 m) = oaS M m := (oaS_c _ (fun j _ => (bh1_f h16).2.2.2 434 j (by decide) (by omega))).trans (oaS_sN (by decide) m)
theorem bh2_f {M : Me} {n m : Nat} (h16 : M 429 16 = (m : Int)) (ho : 0 ≤ oaS M m) : bh2 M n m 429 16 = ((stN M 1 m - 1 : Nat) : Int) ∧ bh2 M n m 429 13 + (stN M 1 m : Int) = M 429 13 + m ∧ (M 429 17 - 1 - (m - stN M 1 m : Int) ≤ bh2 M n m 429 17 ∧ bh2 M n m 429 17 ≤ M 429 17 - 1) ∧ ∀ a j : Int, a ≠ 432 → ¬ (a = 429 ∧ ((7 ≤ j ∧ j ≤ 11) ∨ j = 13 ∨ j = 16 ∨ j = 17)) → bh2 M n m a j = M a j := by
  obtain ⟨a1, a2, a3, a4⟩ := bh1_f (n := n) h16
  have hlt := oaS_st (M := M) (r := 1) (by decide) m
  unfold bh2
  refine ⟨?_, ?_, ?_, fun a j p q => ?_⟩
  · rw [up_eq ⟨rfl, rfl⟩]; omega
  · rw [up_ne (by omega), up_ne (by omega)]; exact a2
  · rw [up_ne (by omega), up_eq ⟨rfl, rfl⟩]; omega
  · rw [up_ne (by omega), up_ne (by omega)]; exact a4 a j p q
theorem bh3_f {M : Me} {n m : Nat} (h16 : M 429 16 = (m : Int)) (ho : 0 ≤ oaS M m) : bh3 M n m 429 16 = ((stN M 1 m - 1 : Nat) : Int) ∧ (M 429 13 + m ≤ bh3 M n m 429 13 + (stN M 1 m : Int) ∧ bh3 M n m 429 13 + (stN M 1 m : Int) ≤ M 429 13 + m + 1) ∧ (M 429 17 - 1 - (m - stN M 1 m : Int) ≤ bh3 M n m 429 17 ∧ bh3 M n m 429 17 ≤ M 429 17 - 1) ∧ ∀ a j : Int, a ≠ 432 → ¬ (a = 429 ∧ ((7 ≤ j ∧ j ≤ 11) ∨ j = 13 ∨ j = 16 ∨ j = 17)) → bh3 M n m a j = M a j := by
  obtain ⟨a1, a2, a3, a4⟩ := bh2_f (n := n) h16 ho
  unfold bh3
  split
  · refine ⟨(emA_o (by omega)).trans a1, ?_, ?_, fun a j p q => (emA_o (by omega)).trans (a4 a j p q)⟩
    · rw [emA_13]; omega
    · rw [emA_o (by omega)]; exact a3
  · exact ⟨a1, by omega, a3, a4⟩
set_option maxHeartbeats 1000000 in
theorem m_behindOne {x y z : Int} {M : Me} {n m : Nat} (h4 : M 429 4 = (n : Int)) (hn : n ≤ 300) (h7 : 0 ≤ M 429 7 ∧ M 429 7 ≤ n) (h12 : 0 ≤ M 429 12 ∧ M 429 12 ≤ 2115) (h13 : 0 ≤ M 429 13 ∧ M 429 13 + m ≤ 300) (h16 : M 429 16 = (m : Int)) (hm : m < 159) (h17 : 0 ≤ M 429 17 ∧ M 429 17 ≤ 8) : Con kX11_behindOne 6 0 0 [(1, 429)] (Sf x y z) M (Ex (some (0, bhV M m)) (Sf x y z) (bhM M n m)) := by
  refine Con.ofV (al := [(1, 429), (9, 0), (9, 0), (9, 0)]) 3 (by decide) (Nat.le_of_ble_eq_true rfl) rfl ?_
  obtain ⟨s1a, s1b, s1c, -⟩ := stl_all (r := 1) m M h16
  have hle1 := stN_le (M := M) (r := 1) m
  have hoa := oaS_b (M := M) m
  have hop : 0 ≤ paO (M 429 9) (M 429 11) (opn M m) (icS M m) → 0 ≤ oaS M m := fun q => opn_oa (paO_p q)
  obtain ⟨s5a, s5b, s5c, -⟩ := stl_all (r := 5) m M h16
  have hle5 := stN_le (M := M) (r := 5) m
  obtain ⟨sra, srb, src, -⟩ := stl_all (r := rnk (bwO (M 429 9) (M 429 11) (opn M m) (icS M m))) m M h16
  have hler := stN_le (M := M) (r := rnk (bwO (M 429 9) (M 429 11) (opn M m) (icS M m))) m
  obtain ⟨b1a, b1b, b1c, b1d⟩ := bh1_f (n := n) h16
  have b1o := bh1_oa (n := n) h16
  have hF2 := fun q => bh2_f (n := n) h16 (hop q)
  have hF3 := fun q => bh3_f (n := n) h16 (hop q)
  refine r_aload_n dX11_behindOne_0 rfl (by decide) ?_
  refine r_cv0 dX11_behindOne_1 clX11_209 sf429 (by decide) (by decide) rfl (by first | decide | omega) (Nat.le_of_ble_eq_true rfl) ((m_betweenOf h16 (by omega))) ⟨Nat.zero_le _, Nat.zero_le _⟩ (fun _ => ?_)
  refine r_istore_n dX11_behindOne_4 rfl (by decide) st1 ?_
  refine r_iload_n dX11_behindOne_5 rfl ?_
  refine r_if_lt (tgt := 60) dX11_behindOne_6 (by decide) (fun h6 => ?_) (fun h6 => ?_)
  · refine r_aload_n dX11_behindOne_60 rfl (by decide) ?_
    refine r_cv0 dX11_behindOne_61 clX11_169 sf429 (by decide) (by decide) rfl (by first | decide | omega) (Nat.le_of_ble_eq_true rfl) ((c_openNow h16 (by omega))) ⟨Nat.zero_le _, Nat.zero_le _⟩ (fun _ => ?_)
    refine r_istore_n dX11_behindOne_64 rfl (by decide) st2 ?_
    refine r_aload_n dX11_behindOne_65 rfl (by decide) ?_
    refine r_iload_n dX11_behindOne_66 rfl ?_
    refine r_cv1 dX11_behindOne_67 clX11_212 sf429 (by decide) (by decide) rfl (by first | decide | omega) (Nat.le_of_ble_eq_true rfl) ((m_partOf h16 (by omega))) ⟨Nat.zero_le _, Nat.zero_le _⟩ (fun _ => ?_)
    refine r_istore_n dX11_behindOne_70 rfl (by decide) st3 ?_
    refine r_iload_n dX11_behindOne_71 rfl ?_
    refine r_if_ge (tgt := 77) dX11_behindOne_72 (by decide) (fun h72 => ?_) (fun h72 => ?_)
    · refine r_aload_n dX11_behindOne_77 rfl (by decide) ?_
      refine r_iconst dX11_behindOne_78 (by decide) ?_
      refine r_cw1 dX11_behindOne_79 clX11_185 sf429 (by decide) (by decide) rfl (by first | decide | omega) (Nat.le_of_ble_eq_true rfl) ((m_settle h16 h12 (by omega) (by omega))) ⟨Nat.zero_le _, Nat.zero_le _⟩ ?_
      refine r_aload_n dX11_behindOne_82 rfl (by decide) ?_
      refine r_cw0 dX11_behindOne_83 clX11_172 sf429 (by decide) (by decide) rfl (by first | decide | omega) (Nat.le_of_ble_eq_true rfl) ((m_nextToken ((stl_o h16 (by decide) (by omega)).trans h4) hn (by rw [stl_o h16 (by decide) (by omega)]; exact h7))) ⟨Nat.zero_le _, Nat.zero_le _⟩ ?_
      refine V.cm rfl (show _ = bh1 M n m from rfl) ?_
      refine r_iload_n dX11_behindOne_86 rfl ?_
      refine r_if_le (tgt := 107) dX11_behindOne_87 (by decide) (fun h87 => ?_) (fun h87 => ?_)
      · refine r_aload_n dX11_behindOne_107 rfl (by decide) ?_
        refine r_dup dX11_behindOne_108 (Nat.ne_of_beq_eq_false rfl) ?_
        refine r_gi 17 dX11_behindOne_109 flX11_162 sf429 (by decide) (by decide) rfl rfl rfl ?_
        refine r_iconst dX11_behindOne_112 (by decide) ?_
        refine r_isub dX11_behindOne_113 (w32_id (by omega)) ?_
        refine r_pi 17 dX11_behindOne_114 fpX11_162 sf429 (by decide) (by decide) rfl rfl ?_
        refine r_aload_n dX11_behindOne_117 rfl (by decide) ?_
        refine r_dup dX11_behindOne_118 (Nat.ne_of_beq_eq_false rfl) ?_
        refine r_gi 16 dX11_behindOne_119 flX11_152 sf429 (by decide) (by decide) rfl rfl (up_ne (by omega)) ?_
        refine r_iconst dX11_behindOne_122 (by decide) ?_
        refine r_isub dX11_behindOne_123 (w32_id (by omega)) ?_
        refine r_pi 16 dX11_behindOne_124 fpX11_152 sf429 (by decide) (by decide) rfl rfl ?_
        refine V.cm rfl (show _ = bh2 M n m from rfl) ?_
        refine r_iload_n dX11_behindOne_127 rfl ?_
        refine r_bipush dX11_behindOne_128 (by decide) (by decide) ?_
        refine r_icmp_ne (tgt := 139) dX11_behindOne_130 (by decide) (fun h130 => ?_) (fun h130 => ?_)
        · refine V.cm rfl (show _ = bh3 M n m from (if_neg (by assumption)).symm) ?_
          refine r_aload_n dX11_behindOne_139 rfl (by decide) ?_
          refine r_bipush dX11_behindOne_140 (by decide) (by decide) ?_
          refine r_cw1 dX11_behindOne_142 clX11_185 sf429 (by decide) (by decide) rfl (by first | decide | omega) (Nat.le_of_ble_eq_true rfl) ((m_settle (hF3 (by omega)).1 (by rw [(hF3 (by omega)).2.2.2 429 12 (by decide) (by omega)]; exact h12) (by have := hF3 (by omega); omega) (by have := hF3 (by omega); omega))) ⟨Nat.zero_le _, Nat.zero_le _⟩ ?_
          refine r_iconst dX11_behindOne_145 (by decide) ?_
          refine r_zret dX11_behindOne_146 rfl (by omega) ?_
          exact ⟨by unfold bhV; rw [if_neg (show ¬ 0 ≤ bhO M m by unfold bhO; omega), if_neg (show ¬ bhP M m < 0 by unfold bhP; omega)], rfl, by unfold bhM; rw [if_neg (show ¬ 0 ≤ bhO M m by unfold bhO; omega), if_neg (show ¬ bhP M m < 0 by unfold bhP; omega), if_neg (show ¬ 0 < bhP M m by unfold bhP; omega)]⟩
        · refine r_aload_n dX11_behindOne_133 rfl (by decide) ?_
          refine r_iconst dX11_behindOne_134 (by decide) ?_
          refine r_iconst dX11_behindOne_135 (by decide) ?_
          refine r_cw2 dX11_behindOne_136 clX11_158 sf429 (by decide) (by decide) rfl (by first | decide | omega) (Nat.le_of_ble_eq_true rfl) ((c_emit (by rw [(hF2 (by omega)).2.2.2 429 12 (by decide) (by omega)]; exact h12) (by have := hF2 (by omega); omega))) ⟨Nat.zero_le _, Nat.zero_le _⟩ ?_
          refine V.cm rfl (show _ = bh3 M n m from (if_pos (by assumption)).symm) ?_
          refine r_aload_n dX11_behindOne_139 rfl (by decide) ?_
          refine r_bipush dX11_behindOne_140 (by decide) (by decide) ?_
          refine r_cw1 dX11_behindOne_142 clX11_185 sf429 (by decide) (by decide) rfl (by first | decide | omega) (Nat.le_of_ble_eq_true rfl) ((m_settle (hF3 (by omega)).1 (by rw [(hF3 (by omega)).2.2.2 429 12 (by decide) (by omega)]; exact h12) (by have := hF3 (by omega); omega) (by have := hF3 (by omega); omega))) ⟨Nat.zero_le _, Nat.zero_le _⟩ ?_
          refine r_iconst dX11_behindOne_145 (by decide) ?_
          refine r_zret dX11_behindOne_146 rfl (by omega) ?_
          exact ⟨by unfold bhV; rw [if_neg (show ¬ 0 ≤ bhO M m by unfold bhO; omega), if_neg (show ¬ bhP M m < 0 by unfold bhP; omega)], rfl, by unfold bhM; rw [if_neg (show ¬ 0 ≤ bhO M m by unfold bhO; omega), if_neg (show ¬ bhP M m < 0 by unfold bhP; omega), if_neg (show ¬ 0 < bhP M m by unfold bhP; omega)]⟩
      · refine r_aload_n dX11_behindOne_90 rfl (by decide) ?_
        refine r_getr (x := 434) dX11_behindOne_91 flX11_29 sf429 (by decide) (by decide) rfl rfl ?_
        refine r_aload_n dX11_behindOne_94 rfl (by decide) ?_
        refine r_cv0 dX11_behindOne_95 clX11_165 sf429 (by decide) (by decide) rfl (by first | decide | omega) (Nat.le_of_ble_eq_true rfl) ((c_openAt (n := stN M 1 m) b1a (by omega))) ⟨Nat.zero_le _, Nat.zero_le _⟩ (fun _ => ?_)
        refine r_iload_n dX11_behindOne_98 rfl ?_
        refine r_iast dX11_behindOne_99 sf434 (by decide) (by rw [b1o]; have := hop (by omega); omega) (by rw [b1o]; have := hop (by omega); omega) (by decide) rfl ?_
        refine r_aload_n dX11_behindOne_100 rfl (by decide) ?_
        refine r_iconst dX11_behindOne_101 (by decide) ?_
        refine r_pz 18 dX11_behindOne_102 fpX11_181 sf429 (by decide) (by decide) rfl (by omega) rfl ?_
        refine r_iconst dX11_behindOne_105 (by decide) ?_
        refine r_zret dX11_behindOne_106 rfl (by omega) ?_
        exact ⟨by unfold bhV; rw [if_neg (show ¬ 0 ≤ bhO M m by unfold bhO; omega), if_neg (show ¬ bhP M m < 0 by unfold bhP; omega)], rfl, by unfold bhM; rw [if_neg (show ¬ 0 ≤ bhO M m by unfold bhO; omega), if_neg (show ¬ bhP M m < 0 by unfold bhP; omega), if_pos (show 0 < bhP M m by unfold bhP; omega)]; rfl⟩
    · refine r_iconst dX11_behindOne_75 (by decide) ?_
      refine r_zret dX11_behindOne_76 rfl (by omega) ?_
      exact ⟨by unfold bhV; rw [if_neg (show ¬ 0 ≤ bhO M m by unfold bhO; omega), if_pos (show bhP M m < 0 by unfold bhP; omega)], rfl, by unfold bhM; rw [if_neg (show ¬ 0 ≤ bhO M m by unfold bhO; omega), if_pos (show bhP M m < 0 by unfold bhP; omega)]⟩
  · refine r_aload_n dX11_behindOne_9 rfl (by decide) ?_
    refine r_iload_n dX11_behindOne_10 rfl ?_
    refine r_cs1 dX11_behindOne_11 clX11_155 (by first | decide | omega) (Nat.le_of_ble_eq_true rfl) (c_rank) ⟨Nat.zero_le _, Nat.zero_le _⟩ (fun _ => ?_)
    refine r_iconst dX11_behindOne_14 (by decide) ?_
    refine r_icmp_ne (tgt := 22) dX11_behindOne_15 (by decide) (fun h15 => ?_) (fun h15 => ?_)
    · refine r_iload_n dX11_behindOne_22 rfl ?_
      refine r_cs1 dX11_behindOne_23 clX11_155 (by first | decide | omega) (Nat.le_of_ble_eq_true rfl) (c_rank) ⟨Nat.zero_le _, Nat.zero_le _⟩ (fun _ => ?_)
      refine r_cw1 dX11_behindOne_26 clX11_185 sf429 (by decide) (by decide) rfl (by first | decide | omega) (Nat.le_of_ble_eq_true rfl) ((m_settle h16 h12 (by omega) (by omega))) ⟨Nat.zero_le _, Nat.zero_le _⟩ ?_
      refine r_aload_n dX11_behindOne_29 rfl (by decide) ?_
      refine r_getr (x := 434) dX11_behindOne_30 flX11_29 sf429 (by decide) (by decide) rfl rfl ?_
      refine r_aload_n dX11_behindOne_33 rfl (by decide) ?_
      refine r_gi 16 dX11_behindOne_34 flX11_152 sf429 (by decide) (by decide) rfl rfl rfl ?_
      refine r_iload_n dX11_behindOne_37 rfl ?_
      refine r_iast dX11_behindOne_38 sf434 (by decide) (by omega) (by omega) (by decide) rfl ?_
      refine r_aload_n dX11_behindOne_39 rfl (by decide) ?_
      refine r_dup dX11_behindOne_40 (Nat.ne_of_beq_eq_false rfl) ?_
      refine r_gi 16 dX11_behindOne_41 flX11_152 sf429 (by decide) (by decide) rfl rfl (up_ne (by omega)) ?_
      refine r_iconst dX11_behindOne_44 (by decide) ?_
      refine r_iadd dX11_behindOne_45 (w32_id (by omega)) ?_
      refine r_pi 16 dX11_behindOne_46 fpX11_152 sf429 (by decide) (by decide) rfl rfl ?_
      refine r_aload_n dX11_behindOne_49 rfl (by decide) ?_
      refine r_iconst dX11_behindOne_50 (by decide) ?_
      refine r_pz 18 dX11_behindOne_51 fpX11_181 sf429 (by decide) (by decide) rfl (by omega) rfl ?_
      refine r_aload_n dX11_behindOne_54 rfl (by decide) ?_
      refine r_cw0 dX11_behindOne_55 clX11_172 sf429 (by decide) (by decide) rfl (by first | decide | omega) (Nat.le_of_ble_eq_true rfl) ((m_nextToken ((up_ne (by omega)).trans ((up_ne (by omega)).trans ((up_ne (by omega)).trans ((stl_o h16 (by decide) (by omega)).trans h4)))) hn (by rw [up_ne (by omega), up_ne (by omega), up_ne (by omega), stl_o h16 (by decide) (by omega)]; exact h7))) ⟨Nat.zero_le _, Nat.zero_le _⟩ ?_
      refine r_iconst dX11_behindOne_58 (by decide) ?_
      refine r_zret dX11_behindOne_59 rfl (by omega) ?_
      first | exact ⟨by unfold bhV; rw [if_pos (show 0 ≤ bhO M m by unfold bhO; omega)], rfl, by unfold bhM bhR; rw [if_pos (show 0 ≤ bhO M m by unfold bhO; omega), if_pos (show rnk (bhO M m) = 4 by unfold bhO; omega)]; rfl⟩ | exact ⟨by unfold bhV; rw [if_pos (show 0 ≤ bhO M m by unfold bhO; omega)], rfl, by unfold bhM bhR; rw [if_pos (show 0 ≤ bhO M m by unfold bhO; omega), if_neg (show ¬ rnk (bhO M m) = 4 by unfold bhO; omega)]; rfl⟩
    · refine r_iconst dX11_behindOne_18 (by decide) ?_
      refine r_goto (tgt := 26) dX11_behindOne_19 (by decide) ?_
      refine r_cw1 dX11_behindOne_26 clX11_185 sf429 (by decide) (by decide) rfl (by first | decide | omega) (Nat.le_of_ble_eq_true rfl) ((m_settle h16 h12 (by omega) (by omega))) ⟨Nat.zero_le _, Nat.zero_le _⟩ ?_
      refine r_aload_n dX11_behindOne_29 rfl (by decide) ?_
      refine r_getr (x := 434) dX11_behindOne_30 flX11_29 sf429 (by decide) (by decide) rfl rfl ?_
      refine r_aload_n dX11_behindOne_33 rfl (by decide) ?_
      refine r_gi 16 dX11_behindOne_34 flX11_152 sf429 (by decide) (by decide) rfl rfl rfl ?_
      refine r_iload_n dX11_behindOne_37 rfl ?_
      refine r_iast dX11_behindOne_38 sf434 (by decide) (by omega) (by omega) (by decide) rfl ?_
      refine r_aload_n dX11_behindOne_39 rfl (by decide) ?_
      refine r_dup dX11_behindOne_40 (Nat.ne_of_beq_eq_false rfl) ?_
      refine r_gi 16 dX11_behindOne_41 flX11_152 sf429 (by decide) (by decide) rfl rfl (up_ne (by omega)) ?_
      refine r_iconst dX11_behindOne_44 (by decide) ?_
      refine r_iadd dX11_behindOne_45 (w32_id (by omega)) ?_
      refine r_pi 16 dX11_behindOne_46 fpX11_152 sf429 (by decide) (by decide) rfl rfl ?_
      refine r_aload_n dX11_behindOne_49 rfl (by decide) ?_
      refine r_iconst dX11_behindOne_50 (by decide) ?_
      refine r_pz 18 dX11_behindOne_51 fpX11_181 sf429 (by decide) (by decide) rfl (by omega) rfl ?_
      refine r_aload_n dX11_behindOne_54 rfl (by decide) ?_
      refine r_cw0 dX11_behindOne_55 clX11_172 sf429 (by decide) (by decide) rfl (by first | decide | omega) (Nat.le_of_ble_eq_true rfl) ((m_nextToken ((up_ne (by omega)).trans ((up_ne (by omega)).trans ((up_ne (by omega)).trans ((stl_o h16 (by decide) (by omega)).trans h4)))) hn (by rw [up_ne (by omega), up_ne (by omega), up_ne (by omega), stl_o h16 (by decide) (by omega)]; exact h7))) ⟨Nat.zero_le _, Nat.zero_le _⟩ ?_
      refine r_iconst dX11_behindOne_58 (by decide) ?_
      refine r_zret dX11_behindOne_59 rfl (by omega) ?_
      first | exact ⟨by unfold bhV; rw [if_pos (show 0 ≤ bhO M m by unfold bhO; omega)], rfl, by unfold bhM bhR; rw [if_pos (show 0 ≤ bhO M m by unfold bhO; omega), if_pos (show rnk (bhO M m) = 4 by unfold bhO; omega)]; rfl⟩ | exact ⟨by unfold bhV; rw [if_pos (show 0 ≤ bhO M m by unfold bhO; omega)], rfl, by unfold bhM bhR; rw [if_pos (show 0 ≤ bhO M m by unfold bhO; omega), if_neg (show ¬ rnk (bhO M m) = 4 by unfold bhO; omega)]; rfl⟩
abbrev pil (M : Me) : Nat := (M 429 16).toNat
/-- one turn of the loop: -1 goes on, else the end and its fault -/
def sdA (M : Me) (n : Nat) : Int × Me := if M 429 18 = 0 then (if bgV M (pil M) = 0 then (-1, bgM M n (pil M)) else (bgV M (pil M), bgM M n (pil M))) else if bhV M (pil M) = 0 then (if opn M (pil M) < 0 then (0, stl M 1 (pil M)) else (1, M)) else (-1, bhM M n (pil M))
/-- what the loop keeps to -/
def GD (M : Me) (n : Nat) : Prop := M 429 4 = (n : Int) ∧ n ≤ 300 ∧ (0 ≤ M 429 7 ∧ M 429 7 ≤ n) ∧ (0 ≤ M 429 12 ∧ M 429 12 ≤ 2115) ∧ (0 ≤ M 429 13 ∧ 0 ≤ M 429 16 ∧ M 429 13 + M 429 16 ≤ 300) ∧ M 429 16 < 159 ∧ (0 ≤ M 429 17 ∧ M 429 17 ≤ 8)
def smI (n : Nat) : Nat → Me → Int × Me
  | 0, M => (-1, M)
  | k + 1, M => if (sdA M n).1 = -1 then smI n k (sdA M n).2 else sdA M n
def smG (n : Nat) : Nat → Me → Prop
  | 0, _ => True
  | k + 1, M => GD M n ∧ ((sdA M n).1 = -1 → smG n k (sdA M n).2)
theorem smI_s {n k : Nat} {M : Me} (h : (sdA M n).1 = -1) : smI n (k + 1) M = smI n k (sdA M n).2 := if_pos h
theorem smI_e {n k : Nat} {M : Me} (h : (sdA M n).1 ≠ -1) : smI n (k + 1) M = sdA M n := if_neg h
theorem bhM_0 {M : Me} {n m : Nat} (h : bhV M m = 0) : bhM M n m = M := by
  unfold bhV at h
  unfold bhM
  split at h
  · omega
  · split at h
    · rw [if_neg (by assumption), if_pos (by assumption)]
    · omega
theorem bgM_1 {M : Me} {n m : Nat} (h : bgV M m ≠ 0) : bgM M n m = M := by
  unfold bgV at h
  unfold bgM
  split at h
  · rw [if_pos (by assumption)]
  · rw [if_neg (by assumption)]
    split at h
    · rw [if_pos (by assumption)]
    · rw [if_neg (by assumption)]
      split at h
      · omega
      · rw [if_neg (by omega), if_neg (by omega)]
        split at h
        · rw [if_pos (by assumption)]
        · rw [if_neg (by assumption)]
          unfold opV at h
          unfold oqM
          split at h
          · rw [if_pos (by assumption)]
          · omega
theorem bgV_b {M : Me} {m : Nat} : 0 ≤ bgV M m ∧ bgV M m ≤ 5 := by
  unfold bgV opV
  (repeat' split) <;> decide
theorem l_summed {x y z : Int} {n : Nat} : ∀ (k : Nat) (M : Me) {l1 : AV}, smG n k M → (smI n k M).1 ≠ -1 → V kX11_summed 0 0 7 none (Ex (some (0, (smI n k M).1)) (Sf x y z) (smI n k M).2) 15 [(1, 429), l1] [] (Sf x y z) M 0 0 := by
  intro k
  induction k with
  | zero => intro M l1 _ hf; exact absurd rfl hf
  | succ k ih =>
    intro M l1 hg hf
    obtain ⟨⟨h4, hn, h7, h12, h13, hm, h17⟩, hgo⟩ := id hg
    have hq : 0 ≤ M 429 13 ∧ M 429 13 + (pil M : Int) ≤ 300 := by
      show 0 ≤ M 429 13 ∧ M 429 13 + ((M 429 16).toNat : Int) ≤ 300
      omega
    have hm2 : pil M < 159 := by
      show (M 429 16).toNat < 159
      omega
    refine r_aload_n dX11_summed_15 rfl (by decide) ?_
    refine r_gz 18 dX11_summed_16 flX11_181 sf429 (by decide) (by decide) rfl rfl (by first | assumption | ((repeat (first | (apply rd_ne; · omega) | (apply rd_eq; · omega) | (apply rd_out; · omega) | (apply rd_in; · omega))); first | assumption | rfl)) ?_
    refine r_if_eq (tgt := 48) dX11_summed_19 (by decide) (fun h19 => ?_) (fun h19 => ?_)
    · refine r_aload_n dX11_summed_48 rfl (by decide) ?_
      refine r_cv0 dX11_summed_49 clX11_218 sf429 (by decide) (by decide) rfl (by first | decide | omega) (Nat.le_of_ble_eq_true rfl) ((m_beginOne h4 hn h7 h12 hq (Int.toNat_of_nonneg (by omega)).symm (by omega) h17)) ⟨Nat.zero_le _, Nat.zero_le _⟩ (fun _ => ?_)
      refine r_istore_n dX11_summed_52 rfl (by decide) st1 ?_
      refine r_iload_n dX11_summed_53 rfl ?_
      refine r_if_eq (tgt := 59) dX11_summed_54 (by decide) (fun h54 => ?_) (fun h54 => ?_)
      · refine r_goto (tgt := 15) dX11_summed_59 (by decide) ?_
        have e9 : sdA M n = (-1, bgM M n (pil M)) := by unfold sdA; rw [if_pos (by assumption), if_pos (by assumption)]
        rw [smI_s (by rw [e9])] at hf ⊢
        rw [e9] at hf ⊢
        exact ih _ (by have q := hgo; rw [e9] at q; exact q rfl) hf
      · refine r_iload_n dX11_summed_57 rfl ?_
        refine r_iret dX11_summed_58 rfl ?_
        (have e9 : sdA M n = (bgV M (pil M), bgM M n (pil M)) := by unfold sdA; rw [if_pos (by assumption), if_neg (by assumption)])
        (have e8 : smI n (k + 1) M = sdA M n := smI_e (by rw [e9]; first | (show (0 : Int) ≠ -1; decide) | (show (1 : Int) ≠ -1; decide) | (show bgV M (pil M) ≠ -1; have := bgV_b (M := M) (m := pil M); omega)))
        rw [e8, e9]
        exact ⟨rfl, rfl, rfl⟩
    · refine r_aload_n dX11_summed_22 rfl (by decide) ?_
      refine r_cv0 dX11_summed_23 clX11_215 sf429 (by decide) (by decide) rfl (by first | decide | omega) (Nat.le_of_ble_eq_true rfl) ((m_behindOne h4 hn h7 h12 hq (Int.toNat_of_nonneg (by omega)).symm (by omega) h17)) ⟨Nat.zero_le _, Nat.zero_le _⟩ (fun _ => ?_)
      refine r_if_eq (tgt := 32) dX11_summed_26 (by decide) (fun h26 => ?_) (fun h26 => ?_)
      · first | (rw [bhM_0 (by assumption)]) | skip
        refine r_aload_n dX11_summed_32 rfl (by decide) ?_
        refine r_cv0 dX11_summed_33 clX11_169 sf429 (by decide) (by decide) rfl (by first | decide | omega) (Nat.le_of_ble_eq_true rfl) ((c_openNow (n := pil M) (Int.toNat_of_nonneg (by omega)).symm (by omega))) ⟨Nat.zero_le _, Nat.zero_le _⟩ (fun _ => ?_)
        refine r_if_lt (tgt := 41) dX11_summed_36 (by decide) (fun h36 => ?_) (fun h36 => ?_)
        · refine r_aload_n dX11_summed_41 rfl (by decide) ?_
          refine r_iconst dX11_summed_42 (by decide) ?_
          refine r_cw1 dX11_summed_43 clX11_185 sf429 (by decide) (by decide) rfl (by first | decide | omega) (Nat.le_of_ble_eq_true rfl) ((m_settle (i := pil M) (Int.toNat_of_nonneg (by omega)).symm h12 (by omega) (by omega))) ⟨Nat.zero_le _, Nat.zero_le _⟩ ?_
          refine r_iconst dX11_summed_46 (by decide) ?_
          refine r_iret dX11_summed_47 rfl ?_
          (have e9 : sdA M n = (0, stl M 1 (pil M)) := by unfold sdA; rw [if_neg (by assumption), if_pos (by assumption), if_pos (by assumption)])
          (have e8 : smI n (k + 1) M = sdA M n := smI_e (by rw [e9]; first | (show (0 : Int) ≠ -1; decide) | (show (1 : Int) ≠ -1; decide) | (show bgV M (pil M) ≠ -1; have := bgV_b (M := M) (m := pil M); omega)))
          rw [e8, e9]
          exact ⟨rfl, rfl, rfl⟩
        · refine r_iconst dX11_summed_39 (by decide) ?_
          refine r_iret dX11_summed_40 rfl ?_
          (have e9 : sdA M n = (1, M) := by unfold sdA; rw [if_neg (by assumption), if_pos (by assumption), if_neg (by omega)])
          (have e8 : smI n (k + 1) M = sdA M n := smI_e (by rw [e9]; first | (show (0 : Int) ≠ -1; decide) | (show (1 : Int) ≠ -1; decide) | (show bgV M (pil M) ≠ -1; have := bgV_b (M := M) (m := pil M); omega)))
          rw [e8, e9]
          exact ⟨rfl, rfl, rfl⟩
      · first | (rw [bhM_0 (by assumption)]) | skip
        refine r_goto (tgt := 15) dX11_summed_29 (by decide) ?_
        have e9 : sdA M n = (-1, bhM M n (pil M)) := by unfold sdA; rw [if_neg (by assumption), if_neg (by assumption)]
        rw [smI_s (by rw [e9])] at hf ⊢
        rw [e9] at hf ⊢
        exact ih _ (by have q := hgo; rw [e9] at q; exact q rfl) hf
theorem m_summed {x y z : Int} {M : Me} {n k : Nat} (hg : smG n k (up (up (up M 429 16 0) 429 17 0) 429 18 0)) (hf : (smI n k (up (up (up M 429 16 0) 429 17 0) 429 18 0)).1 ≠ -1) : Con kX11_summed 7 0 0 [(1, 429)] (Sf x y z) M (Ex (some (0, (smI n k (up (up (up M 429 16 0) 429 17 0) 429 18 0)).1)) (Sf x y z) (smI n k (up (up (up M 429 16 0) 429 17 0) 429 18 0)).2) := by
  refine Con.ofV (al := [(1, 429), (9, 0)]) 1 (by decide) (Nat.le_of_ble_eq_true rfl) rfl ?_
  refine r_aload_n dX11_summed_0 rfl (by decide) ?_
  refine r_iconst dX11_summed_1 (by decide) ?_
  refine r_pi 16 dX11_summed_2 fpX11_152 sf429 (by decide) (by decide) rfl rfl ?_
  refine r_aload_n dX11_summed_5 rfl (by decide) ?_
  refine r_iconst dX11_summed_6 (by decide) ?_
  refine r_pi 17 dX11_summed_7 fpX11_162 sf429 (by decide) (by decide) rfl rfl ?_
  refine r_aload_n dX11_summed_10 rfl (by decide) ?_
  refine r_iconst dX11_summed_11 (by decide) ?_
  refine r_pz 18 dX11_summed_12 fpX11_181 sf429 (by decide) (by decide) rfl (by omega) rfl ?_
  exact l_summed k _ hg hf
