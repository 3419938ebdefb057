def spX (D : Me) (n : Nat) (u : Int) : Me := if u % 6 = 5 then (if D 50 0 < 9999 then phC D n else D) else if n = 0 then D else if u % 6 = 4 then (dnS D n 1 n).1 else if u % 6 = 3 then (if mcP D n (u % n) then cbC D (u % n) (D 211 (u % n)) else D) else if D 52 (u % n) = 0 then poM D n (u % n) else D
theorem spX_w {D : Me} (h : CI D) {n : Nat} (hn : D 50 3 = (n : Int)) {u : Int} : CI (spX D n u) ∧ ∀ a j : Int, ¬ ((a = 48 ∧ 0 ≤ j ∧ j < 64) ∨ (a = 47 ∧ j = 1) ∨ (51 ≤ a ∧ a ≤ 54) ∨ (a = 50 ∧ (j = 0 ∨ j = 1 ∨ j = 4))) → spX D n u a j = D a j := by
  have h3 := h.c
  unfold spX
  split
  · split
    · exact ⟨h.ph (by omega) (by assumption), fun a j q => phC_o (by omega)⟩
    · exact ⟨h, fun _ _ _ => rfl⟩
  · split
    · exact ⟨h, fun _ _ _ => rfl⟩
    · have hc : 0 ≤ u % (n : Int) ∧ u % (n : Int) < D 50 3 := ⟨Int.emod_nonneg _ (by omega), by have := Int.emod_lt_of_pos u (show (0 : Int) < n by omega); omega⟩
      split
      · exact ⟨(dnS_w h (n := n) (k := 1) n).1, fun a j q => (dnS_w h (n := n) (k := 1) n).2.1 a j (by omega)⟩
      · split
        · split
          · exact ⟨h.cb (h.2.1 _ hc.1 hc.2).2.2.2.2.2.1, fun a j q => cbC_o (by omega)⟩
          · exact ⟨h, fun _ _ _ => rfl⟩
        · split
          · exact ⟨h.po hc, fun a j q => poM_o (by omega)⟩
          · exact ⟨h, fun _ _ _ => rfl⟩
def seS (M : Me) (n : Nat) : Nat → Me
  | 0 => M
  | k + 1 => spX (drC (seS M n k)) n (seS M n k 50 1)
theorem seS_w {M : Me} (h : CI M) {n : Nat} (hn : M 50 3 = (n : Int)) : ∀ k : Nat, CI (seS M n k) ∧ ∀ a j : Int, ¬ ((a = 48 ∧ 0 ≤ j ∧ j < 64) ∨ (a = 47 ∧ j = 1) ∨ (51 ≤ a ∧ a ≤ 54) ∨ (a = 50 ∧ (j = 0 ∨ j = 1 ∨ j = 4))) → seS M n k a j = M a j := by
  intro k
  induction k with
  | zero => exact ⟨h, fun _ _ _ => rfl⟩
  | succ k ih =>
    have e : drC (seS M n k) 50 3 = (n : Int) := (up_ne (by omega)).trans ((ih.2 50 3 (by omega)).trans hn)
    have h2 := spX_w ih.1.dr e (u := seS M n k 50 1)
    exact ⟨h2.1, fun a j q => (h2.2 a j q).trans ((up_ne (by omega)).trans (ih.2 a j q))⟩
set_option maxHeartbeats 1000000 in
theorem c_passSeason {x y z : Int} {M : Me} (h : CI M) {n : Nat} (hn : M 50 3 = (n : Int)) (hn12 : n ≤ 12) : Con kX6_passSeason 6 0 0 [(1, 49)] (Sf x y z) M (Ex none (Sf x y z) (spX (drC M) n (M 50 1))) := by
  refine Con.ofV (al := [(1, 49), (9, 0), (9, 0), (9, 0)]) 3 (by decide) (Nat.le_of_ble_eq_true rfl) rfl ?_
  have hx := h.x
  have h3 := h.c
  have hD := h.dr
  have e3 : drC M 50 3 = (n : Int) := (up_ne (by omega)).trans hn
  have e0 : drC M 50 0 = M 50 0 := up_ne (by omega)
  have hc : 0 < n → 0 ≤ M 50 1 % (n : Int) ∧ M 50 1 % (n : Int) < drC M 50 3 := fun q => ⟨Int.emod_nonneg _ (by omega), by have := Int.emod_lt_of_pos (M 50 1) (show (0 : Int) < n by omega); omega⟩
  have h12 : drC M 50 3 ≤ 12 := hD.c.2
  refine r_aload_n dX6_passSeason_0 rfl (by decide) ?_
  refine r_getr (x := 50) dX6_passSeason_1 flX6_21 sf49 (by decide) (by decide) rfl rfl ?_
  refine r_gi 1 dX6_passSeason_4 flX6_185 sf50 (by decide) (by decide) rfl rfl rfl ?_
  refine r_istore_n dX6_passSeason_7 rfl (by decide) st1 ?_
  refine r_aload_n dX6_passSeason_8 rfl (by decide) ?_
  refine r_getr (x := 50) dX6_passSeason_9 flX6_21 sf49 (by decide) (by decide) rfl rfl ?_
  refine r_cv0 dX6_passSeason_12 clX6_152 sf50 (by decide) (by decide) rfl (by first | decide | omega) (Nat.le_of_ble_eq_true rfl) ((c_draw h.x)) ⟨Nat.zero_le _, Nat.zero_le _⟩ (fun _ => ?_)
  refine r_pop dX6_passSeason_15 (Nat.ne_of_beq_eq_false rfl) ?_
  refine r_iload_n dX6_passSeason_16 rfl ?_
  refine r_bipush dX6_passSeason_17 (by decide) (by decide) ?_
  refine r_irem dX6_passSeason_19 (by omega) (rmn (by omega)) ?_
  refine r_istore_n dX6_passSeason_20 rfl (by decide) st2 ?_
  refine r_iload_n dX6_passSeason_21 rfl ?_
  refine r_iconst dX6_passSeason_22 (by decide) ?_
  refine r_icmp_ne (tgt := 43) dX6_passSeason_23 (by decide) (fun h23 => ?_) (fun h23 => ?_)
  · refine r_iload_n dX6_passSeason_43 rfl ?_
    refine r_iconst dX6_passSeason_44 (by decide) ?_
    refine r_icmp_eq (tgt := 58) dX6_passSeason_45 (by decide) (fun h45 => by exfalso; omega) (fun h45 => ?_)
    refine r_aload_n dX6_passSeason_48 rfl (by decide) ?_
    refine r_getr (x := 50) dX6_passSeason_49 flX6_21 sf49 (by decide) (by decide) rfl rfl ?_
    refine r_gi 3 dX6_passSeason_52 flX6_111 sf50 (by decide) (by decide) rfl rfl (by first | exact e3 | exact (phC_o (by omega)).trans e3) ?_
    refine r_if_gt (tgt := 59) dX6_passSeason_55 (by decide) (fun h55 => ?_) (fun h55 => ?_)
    · refine r_iload_n dX6_passSeason_59 rfl ?_
      refine r_aload_n dX6_passSeason_60 rfl (by decide) ?_
      refine r_getr (x := 50) dX6_passSeason_61 flX6_21 sf49 (by decide) (by decide) rfl rfl ?_
      refine r_gi 3 dX6_passSeason_64 flX6_111 sf50 (by decide) (by decide) rfl rfl (by first | exact e3 | exact (phC_o (by omega)).trans e3) ?_
      refine r_irem dX6_passSeason_67 (by omega) (rmn (by omega)) ?_
      refine r_istore_n dX6_passSeason_68 rfl (by decide) st3 ?_
      refine r_iload_n dX6_passSeason_69 rfl ?_
      refine r_iconst dX6_passSeason_70 (by decide) ?_
      refine r_icmp_gt (tgt := 90) dX6_passSeason_71 (by decide) (fun h71 => ?_) (fun h71 => ?_)
      · refine r_iload_n dX6_passSeason_90 rfl ?_
        refine r_iconst dX6_passSeason_91 (by decide) ?_
        refine r_icmp_ne (tgt := 117) dX6_passSeason_92 (by decide) (fun h92 => ?_) (fun h92 => ?_)
        · refine r_iload_n dX6_passSeason_117 rfl ?_
          refine r_iconst dX6_passSeason_118 (by decide) ?_
          refine r_icmp_ne (tgt := 128) dX6_passSeason_119 (by decide) (fun h119 => ?_) (fun h119 => ?_)
          · refine r_ret0 dX6_passSeason_128 rfl ?_
            refine ⟨rfl, rfl, ?_⟩
            unfold spX
            first | (rw [if_pos (by first | omega | assumption), if_pos (by first | omega | assumption)]; done) | (rw [if_pos (by first | omega | assumption), if_neg (by first | omega | assumption)]; done) | (rw [if_neg (by first | omega | assumption), if_pos (by first | omega | assumption)]; done) | (rw [if_neg (by first | omega | assumption), if_neg (by first | omega | assumption), if_pos (by first | omega | assumption)]; done) | (rw [if_neg (by first | omega | assumption), if_neg (by first | omega | assumption), if_neg (by first | omega | assumption), if_pos (by first | omega | assumption), if_pos (by first | omega | assumption)]; done) | (rw [if_neg (by first | omega | assumption), if_neg (by first | omega | assumption), if_neg (by first | omega | assumption), if_pos (by first | omega | assumption), if_neg (by first | omega | assumption)]; done) | (rw [if_neg (by first | omega | assumption), if_neg (by first | omega | assumption), if_neg (by first | omega | assumption), if_neg (by first | omega | assumption), if_pos (by first | omega | assumption)]; done) | (rw [if_neg (by first | omega | assumption), if_neg (by first | omega | assumption), if_neg (by first | omega | assumption), if_neg (by first | omega | assumption), if_neg (by first | omega | assumption)]; done)
          · refine r_aload_n dX6_passSeason_122 rfl (by decide) ?_
            refine r_iconst dX6_passSeason_123 (by decide) ?_
            refine r_cv1 dX6_passSeason_124 clX6_175 sf49 (by decide) (by decide) rfl (by first | decide | omega) (Nat.le_of_ble_eq_true rfl) ((c_dampen hD e3 hn12)) ⟨Nat.zero_le _, Nat.zero_le _⟩ (fun _ => ?_)
            refine r_pop dX6_passSeason_127 (Nat.ne_of_beq_eq_false rfl) ?_
            refine r_ret0 dX6_passSeason_128 rfl ?_
            refine ⟨rfl, rfl, ?_⟩
            unfold spX
            first | (rw [if_pos (by first | omega | assumption), if_pos (by first | omega | assumption)]; done) | (rw [if_pos (by first | omega | assumption), if_neg (by first | omega | assumption)]; done) | (rw [if_neg (by first | omega | assumption), if_pos (by first | omega | assumption)]; done) | (rw [if_neg (by first | omega | assumption), if_neg (by first | omega | assumption), if_pos (by first | omega | assumption)]; done) | (rw [if_neg (by first | omega | assumption), if_neg (by first | omega | assumption), if_neg (by first | omega | assumption), if_pos (by first | omega | assumption), if_pos (by first | omega | assumption)]; done) | (rw [if_neg (by first | omega | assumption), if_neg (by first | omega | assumption), if_neg (by first | omega | assumption), if_pos (by first | omega | assumption), if_neg (by first | omega | assumption)]; done) | (rw [if_neg (by first | omega | assumption), if_neg (by first | omega | assumption), if_neg (by first | omega | assumption), if_neg (by first | omega | assumption), if_pos (by first | omega | assumption)]; done) | (rw [if_neg (by first | omega | assumption), if_neg (by first | omega | assumption), if_neg (by first | omega | assumption), if_neg (by first | omega | assumption), if_neg (by first | omega | assumption)]; done)
        · refine r_aload_n dX6_passSeason_95 rfl (by decide) ?_
          refine r_iload_n dX6_passSeason_96 rfl ?_
          refine r_cv1 dX6_passSeason_97 clX6_169 sf49 (by decide) (by decide) rfl (by first | decide | omega) (Nat.le_of_ble_eq_true rfl) ((c_mayComeBack e3 hn12)) ⟨Nat.zero_le _, Nat.zero_le _⟩ (fun _ => ?_)
          refine r_if_eq (tgt := 117) dX6_passSeason_100 (by decide) (fun h100 => ?_) (fun h100 => ?_)
          · try have h100 := bi_0.mp h100
            refine r_iload_n dX6_passSeason_117 rfl ?_
            refine r_iconst dX6_passSeason_118 (by decide) ?_
            refine r_icmp_ne (tgt := 128) dX6_passSeason_119 (by decide) (fun h119 => ?_) (fun h119 => ?_)
            · refine r_ret0 dX6_passSeason_128 rfl ?_
              refine ⟨rfl, rfl, ?_⟩
              unfold spX
              first | (rw [if_pos (by first | omega | assumption), if_pos (by first | omega | assumption)]; done) | (rw [if_pos (by first | omega | assumption), if_neg (by first | omega | assumption)]; done) | (rw [if_neg (by first | omega | assumption), if_pos (by first | omega | assumption)]; done) | (rw [if_neg (by first | omega | assumption), if_neg (by first | omega | assumption), if_pos (by first | omega | assumption)]; done) | (rw [if_neg (by first | omega | assumption), if_neg (by first | omega | assumption), if_neg (by first | omega | assumption), if_pos (by first | omega | assumption), if_pos (by first | omega | assumption)]; done) | (rw [if_neg (by first | omega | assumption), if_neg (by first | omega | assumption), if_neg (by first | omega | assumption), if_pos (by first | omega | assumption), if_neg (by first | omega | assumption)]; done) | (rw [if_neg (by first | omega | assumption), if_neg (by first | omega | assumption), if_neg (by first | omega | assumption), if_neg (by first | omega | assumption), if_pos (by first | omega | assumption)]; done) | (rw [if_neg (by first | omega | assumption), if_neg (by first | omega | assumption), if_neg (by first | omega | assumption), if_neg (by first | omega | assumption), if_neg (by first | omega | assumption)]; done)
            · refine r_aload_n dX6_passSeason_122 rfl (by decide) ?_
              refine r_iconst dX6_passSeason_123 (by decide) ?_
              refine r_cv1 dX6_passSeason_124 clX6_175 sf49 (by decide) (by decide) rfl (by first | decide | omega) (Nat.le_of_ble_eq_true rfl) ((c_dampen hD e3 hn12)) ⟨Nat.zero_le _, Nat.zero_le _⟩ (fun _ => ?_)
              refine r_pop dX6_passSeason_127 (Nat.ne_of_beq_eq_false rfl) ?_
              refine r_ret0 dX6_passSeason_128 rfl ?_
              refine ⟨rfl, rfl, ?_⟩
              unfold spX
              first | (rw [if_pos (by first | omega | assumption), if_pos (by first | omega | assumption)]; done) | (rw [if_pos (by first | omega | assumption), if_neg (by first | omega | assumption)]; done) | (rw [if_neg (by first | omega | assumption), if_pos (by first | omega | assumption)]; done) | (rw [if_neg (by first | omega | assumption), if_neg (by first | omega | assumption), if_pos (by first | omega | assumption)]; done) | (rw [if_neg (by first | omega | assumption), if_neg (by first | omega | assumption), if_neg (by first | omega | assumption), if_pos (by first | omega | assumption), if_pos (by first | omega | assumption)]; done) | (rw [if_neg (by first | omega | assumption), if_neg (by first | omega | assumption), if_neg (by first | omega | assumption), if_pos (by first | omega | assumption), if_neg (by first | omega | assumption)]; done) | (rw [if_neg (by first | omega | assumption), if_neg (by first | omega | assumption), if_neg (by first | omega | assumption), if_neg (by first | omega | assumption), if_pos (by first | omega | assumption)]; done) | (rw [if_neg (by first | omega | assumption), if_neg (by first | omega | assumption), if_neg (by first | omega | assumption), if_neg (by first | omega | assumption), if_neg (by first | omega | assumption)]; done)
          · try have h100 := bi_1.mp h100
            refine r_aload_n dX6_passSeason_103 rfl (by decide) ?_
            refine r_iload_n dX6_passSeason_104 rfl ?_
            refine r_aload_n dX6_passSeason_105 rfl (by decide) ?_
            refine r_getr (x := 211) dX6_passSeason_106 flX6_45 sf49 (by decide) (by decide) rfl rfl ?_
            refine r_iload_n dX6_passSeason_109 rfl ?_
            refine r_iald dX6_passSeason_110 sf211 (by decide) (by omega) (by omega) (by decide) rfl ?_
            refine r_cw2 dX6_passSeason_111 clX6_172 sf49 (by decide) (by decide) rfl (by first | decide | omega) (Nat.le_of_ble_eq_true rfl) ((c_comeBack (by have := hc (by omega); omega) hD.b)) ⟨Nat.zero_le _, Nat.zero_le _⟩ ?_
            refine r_goto (tgt := 128) dX6_passSeason_114 (by decide) ?_
            refine r_ret0 dX6_passSeason_128 rfl ?_
            refine ⟨rfl, rfl, ?_⟩
            unfold spX
            first | (rw [if_pos (by first | omega | assumption), if_pos (by first | omega | assumption)]; done) | (rw [if_pos (by first | omega | assumption), if_neg (by first | omega | assumption)]; done) | (rw [if_neg (by first | omega | assumption), if_pos (by first | omega | assumption)]; done) | (rw [if_neg (by first | omega | assumption), if_neg (by first | omega | assumption), if_pos (by first | omega | assumption)]; done) | (rw [if_neg (by first | omega | assumption), if_neg (by first | omega | assumption), if_neg (by first | omega | assumption), if_pos (by first | omega | assumption), if_pos (by first | omega | assumption)]; done) | (rw [if_neg (by first | omega | assumption), if_neg (by first | omega | assumption), if_neg (by first | omega | assumption), if_pos (by first | omega | assumption), if_neg (by first | omega | assumption)]; done) | (rw [if_neg (by first | omega | assumption), if_neg (by first | omega | assumption), if_neg (by first | omega | assumption), if_neg (by first | omega | assumption), if_pos (by first | omega | assumption)]; done) | (rw [if_neg (by first | omega | assumption), if_neg (by first | omega | assumption), if_neg (by first | omega | assumption), if_neg (by first | omega | assumption), if_neg (by first | omega | assumption)]; done)
      · refine r_aload_n dX6_passSeason_74 rfl (by decide) ?_
        refine r_iload_n dX6_passSeason_75 rfl ?_
        refine r_cv1 dX6_passSeason_76 clX6_133 sf49 (by decide) (by decide) rfl (by first | decide | omega) (Nat.le_of_ble_eq_true rfl) ((s_isThere hD.c)) ⟨Nat.zero_le _, Nat.zero_le _⟩ (fun _ => ?_)
        refine r_if_eq (tgt := 90) dX6_passSeason_79 (by decide) (fun h79 => ?_) (fun h79 => ?_)
        · try have h79 := bi_0.mp h79
          refine r_iload_n dX6_passSeason_90 rfl ?_
          refine r_iconst dX6_passSeason_91 (by decide) ?_
          refine r_icmp_ne (tgt := 117) dX6_passSeason_92 (by decide) (fun h92 => ?_) (fun h92 => ?_)
          · refine r_iload_n dX6_passSeason_117 rfl ?_
            refine r_iconst dX6_passSeason_118 (by decide) ?_
            refine r_icmp_ne (tgt := 128) dX6_passSeason_119 (by decide) (fun h119 => ?_) (fun h119 => ?_)
            · refine r_ret0 dX6_passSeason_128 rfl ?_
              refine ⟨rfl, rfl, ?_⟩
              unfold spX
              first | (rw [if_pos (by first | omega | assumption), if_pos (by first | omega | assumption)]; done) | (rw [if_pos (by first | omega | assumption), if_neg (by first | omega | assumption)]; done) | (rw [if_neg (by first | omega | assumption), if_pos (by first | omega | assumption)]; done) | (rw [if_neg (by first | omega | assumption), if_neg (by first | omega | assumption), if_pos (by first | omega | assumption)]; done) | (rw [if_neg (by first | omega | assumption), if_neg (by first | omega | assumption), if_neg (by first | omega | assumption), if_pos (by first | omega | assumption), if_pos (by first | omega | assumption)]; done) | (rw [if_neg (by first | omega | assumption), if_neg (by first | omega | assumption), if_neg (by first | omega | assumption), if_pos (by first | omega | assumption), if_neg (by first | omega | assumption)]; done) | (rw [if_neg (by first | omega | assumption), if_neg (by first | omega | assumption), if_neg (by first | omega | assumption), if_neg (by first | omega | assumption), if_pos (by first | omega | assumption)]; done) | (rw [if_neg (by first | omega | assumption), if_neg (by first | omega | assumption), if_neg (by first | omega | assumption), if_neg (by first | omega | assumption), if_neg (by first | omega | assumption)]; done)
            · refine r_aload_n dX6_passSeason_122 rfl (by decide) ?_
              refine r_iconst dX6_passSeason_123 (by decide) ?_
              refine r_cv1 dX6_passSeason_124 clX6_175 sf49 (by decide) (by decide) rfl (by first | decide | omega) (Nat.le_of_ble_eq_true rfl) ((c_dampen hD e3 hn12)) ⟨Nat.zero_le _, Nat.zero_le _⟩ (fun _ => ?_)
              refine r_pop dX6_passSeason_127 (Nat.ne_of_beq_eq_false rfl) ?_
              refine r_ret0 dX6_passSeason_128 rfl ?_
              refine ⟨rfl, rfl, ?_⟩
              unfold spX
              first | (rw [if_pos (by first | omega | assumption), if_pos (by first | omega | assumption)]; done) | (rw [if_pos (by first | omega | assumption), if_neg (by first | omega | assumption)]; done) | (rw [if_neg (by first | omega | assumption), if_pos (by first | omega | assumption)]; done) | (rw [if_neg (by first | omega | assumption), if_neg (by first | omega | assumption), if_pos (by first | omega | assumption)]; done) | (rw [if_neg (by first | omega | assumption), if_neg (by first | omega | assumption), if_neg (by first | omega | assumption), if_pos (by first | omega | assumption), if_pos (by first | omega | assumption)]; done) | (rw [if_neg (by first | omega | assumption), if_neg (by first | omega | assumption), if_neg (by first | omega | assumption), if_pos (by first | omega | assumption), if_neg (by first | omega | assumption)]; done) | (rw [if_neg (by first | omega | assumption), if_neg (by first | omega | assumption), if_neg (by first | omega | assumption), if_neg (by first | omega | assumption), if_pos (by first | omega | assumption)]; done) | (rw [if_neg (by first | omega | assumption), if_neg (by first | omega | assumption), if_neg (by first | omega | assumption), if_neg (by first | omega | assumption), if_neg (by first | omega | assumption)]; done)
          · refine r_aload_n dX6_passSeason_95 rfl (by decide) ?_
            refine r_iload_n dX6_passSeason_96 rfl ?_
            refine r_cv1 dX6_passSeason_97 clX6_169 sf49 (by decide) (by decide) rfl (by first | decide | omega) (Nat.le_of_ble_eq_true rfl) ((c_mayComeBack e3 hn12)) ⟨Nat.zero_le _, Nat.zero_le _⟩ (fun _ => ?_)
            refine r_if_eq (tgt := 117) dX6_passSeason_100 (by decide) (fun h100 => ?_) (fun h100 => ?_)
            · try have h100 := bi_0.mp h100
              refine r_iload_n dX6_passSeason_117 rfl ?_
              refine r_iconst dX6_passSeason_118 (by decide) ?_
              refine r_icmp_ne (tgt := 128) dX6_passSeason_119 (by decide) (fun h119 => ?_) (fun h119 => ?_)
              · refine r_ret0 dX6_passSeason_128 rfl ?_
                refine ⟨rfl, rfl, ?_⟩
                unfold spX
                first | (rw [if_pos (by first | omega | assumption), if_pos (by first | omega | assumption)]; done) | (rw [if_pos (by first | omega | assumption), if_neg (by first | omega | assumption)]; done) | (rw [if_neg (by first | omega | assumption), if_pos (by first | omega | assumption)]; done) | (rw [if_neg (by first | omega | assumption), if_neg (by first | omega | assumption), if_pos (by first | omega | assumption)]; done) | (rw [if_neg (by first | omega | assumption), if_neg (by first | omega | assumption), if_neg (by first | omega | assumption), if_pos (by first | omega | assumption), if_pos (by first | omega | assumption)]; done) | (rw [if_neg (by first | omega | assumption), if_neg (by first | omega | assumption), if_neg (by first | omega | assumption), if_pos (by first | omega | assumption), if_neg (by first | omega | assumption)]; done) | (rw [if_neg (by first | omega | assumption), if_neg (by first | omega | assumption), if_neg (by first | omega | assumption), if_neg (by first | omega | assumption), if_pos (by first | omega | assumption)]; done) | (rw [if_neg (by first | omega | assumption), if_neg (by first | omega | assumption), if_neg (by first | omega | assumption), if_neg (by first | omega | assumption), if_neg (by first | omega | assumption)]; done)
              · refine r_aload_n dX6_passSeason_122 rfl (by decide) ?_
                refine r_iconst dX6_passSeason_123 (by decide) ?_
                refine r_cv1 dX6_passSeason_124 clX6_175 sf49 (by decide) (by decide) rfl (by first | decide | omega) (Nat.le_of_ble_eq_true rfl) ((c_dampen hD e3 hn12)) ⟨Nat.zero_le _, Nat.zero_le _⟩ (fun _ => ?_)
                refine r_pop dX6_passSeason_127 (Nat.ne_of_beq_eq_false rfl) ?_
                refine r_ret0 dX6_passSeason_128 rfl ?_
                refine ⟨rfl, rfl, ?_⟩
                unfold spX
                first | (rw [if_pos (by first | omega | assumption), if_pos (by first | omega | assumption)]; done) | (rw [if_pos (by first | omega | assumption), if_neg (by first | omega | assumption)]; done) | (rw [if_neg (by first | omega | assumption), if_pos (by first | omega | assumption)]; done) | (rw [if_neg (by first | omega | assumption), if_neg (by first | omega | assumption), if_pos (by first | omega | assumption)]; done) | (rw [if_neg (by first | omega | assumption), if_neg (by first | omega | assumption), if_neg (by first | omega | assumption), if_pos (by first | omega | assumption), if_pos (by first | omega | assumption)]; done) | (rw [if_neg (by first | omega | assumption), if_neg (by first | omega | assumption), if_neg (by first | omega | assumption), if_pos (by first | omega | assumption), if_neg (by first | omega | assumption)]; done) | (rw [if_neg (by first | omega | assumption), if_neg (by first | omega | assumption), if_neg (by first | omega | assumption), if_neg (by first | omega | assumption), if_pos (by first | omega | assumption)]; done) | (rw [if_neg (by first | omega | assumption), if_neg (by first | omega | assumption), if_neg (by first | omega | assumption), if_neg (by first | omega | assumption), if_neg (by first | omega | assumption)]; done)
            · try have h100 := bi_1.mp h100
              refine r_aload_n dX6_passSeason_103 rfl (by decide) ?_
              refine r_iload_n dX6_passSeason_104 rfl ?_
              refine r_aload_n dX6_passSeason_105 rfl (by decide) ?_
              refine r_getr (x := 211) dX6_passSeason_106 flX6_45 sf49 (by decide) (by decide) rfl rfl ?_
              refine r_iload_n dX6_passSeason_109 rfl ?_
              refine r_iald dX6_passSeason_110 sf211 (by decide) (by omega) (by omega) (by decide) rfl ?_
              refine r_cw2 dX6_passSeason_111 clX6_172 sf49 (by decide) (by decide) rfl (by first | decide | omega) (Nat.le_of_ble_eq_true rfl) ((c_comeBack (by have := hc (by omega); omega) hD.b)) ⟨Nat.zero_le _, Nat.zero_le _⟩ ?_
              refine r_goto (tgt := 128) dX6_passSeason_114 (by decide) ?_
              refine r_ret0 dX6_passSeason_128 rfl ?_
              refine ⟨rfl, rfl, ?_⟩
              unfold spX
              first | (rw [if_pos (by first | omega | assumption), if_pos (by first | omega | assumption)]; done) | (rw [if_pos (by first | omega | assumption), if_neg (by first | omega | assumption)]; done) | (rw [if_neg (by first | omega | assumption), if_pos (by first | omega | assumption)]; done) | (rw [if_neg (by first | omega | assumption), if_neg (by first | omega | assumption), if_pos (by first | omega | assumption)]; done) | (rw [if_neg (by first | omega | assumption), if_neg (by first | omega | assumption), if_neg (by first | omega | assumption), if_pos (by first | omega | assumption), if_pos (by first | omega | assumption)]; done) | (rw [if_neg (by first | omega | assumption), if_neg (by first | omega | assumption), if_neg (by first | omega | assumption), if_pos (by first | omega | assumption), if_neg (by first | omega | assumption)]; done) | (rw [if_neg (by first | omega | assumption), if_neg (by first | omega | assumption), if_neg (by first | omega | assumption), if_neg (by first | omega | assumption), if_pos (by first | omega | assumption)]; done) | (rw [if_neg (by first | omega | assumption), if_neg (by first | omega | assumption), if_neg (by first | omega | assumption), if_neg (by first | omega | assumption), if_neg (by first | omega | assumption)]; done)
        · try have h79 := bi_1.mp h79
          refine r_aload_n dX6_passSeason_82 rfl (by decide) ?_
          refine r_iload_n dX6_passSeason_83 rfl ?_
          refine r_cw1 dX6_passSeason_84 clX6_139 sf49 (by decide) (by decide) rfl (by first | decide | omega) (Nat.le_of_ble_eq_true rfl) ((c_pressOne hD (hc (by omega)) e3 hn12)) ⟨Nat.zero_le _, Nat.zero_le _⟩ ?_
          refine r_goto (tgt := 128) dX6_passSeason_87 (by decide) ?_
          refine r_ret0 dX6_passSeason_128 rfl ?_
          refine ⟨rfl, rfl, ?_⟩
          unfold spX
          first | (rw [if_pos (by first | omega | assumption), if_pos (by first | omega | assumption)]; done) | (rw [if_pos (by first | omega | assumption), if_neg (by first | omega | assumption)]; done) | (rw [if_neg (by first | omega | assumption), if_pos (by first | omega | assumption)]; done) | (rw [if_neg (by first | omega | assumption), if_neg (by first | omega | assumption), if_pos (by first | omega | assumption)]; done) | (rw [if_neg (by first | omega | assumption), if_neg (by first | omega | assumption), if_neg (by first | omega | assumption), if_pos (by first | omega | assumption), if_pos (by first | omega | assumption)]; done) | (rw [if_neg (by first | omega | assumption), if_neg (by first | omega | assumption), if_neg (by first | omega | assumption), if_pos (by first | omega | assumption), if_neg (by first | omega | assumption)]; done) | (rw [if_neg (by first | omega | assumption), if_neg (by first | omega | assumption), if_neg (by first | omega | assumption), if_neg (by first | omega | assumption), if_pos (by first | omega | assumption)]; done) | (rw [if_neg (by first | omega | assumption), if_neg (by first | omega | assumption), if_neg (by first | omega | assumption), if_neg (by first | omega | assumption), if_neg (by first | omega | assumption)]; done)
    · refine r_ret0 dX6_passSeason_58 rfl ?_
      refine ⟨rfl, rfl, ?_⟩
      unfold spX
      first | (rw [if_pos (by first | omega | assumption), if_pos (by first | omega | assumption)]; done) | (rw [if_pos (by first | omega | assumption), if_neg (by first | omega | assumption)]; done) | (rw [if_neg (by first | omega | assumption), if_pos (by first | omega | assumption)]; done) | (rw [if_neg (by first | omega | assumption), if_neg (by first | omega | assumption), if_pos (by first | omega | assumption)]; done) | (rw [if_neg (by first | omega | assumption), if_neg (by first | omega | assumption), if_neg (by first | omega | assumption), if_pos (by first | omega | assumption), if_pos (by first | omega | assumption)]; done) | (rw [if_neg (by first | omega | assumption), if_neg (by first | omega | assumption), if_neg (by first | omega | assumption), if_pos (by first | omega | assumption), if_neg (by first | omega | assumption)]; done) | (rw [if_neg (by first | omega | assumption), if_neg (by first | omega | assumption), if_neg (by first | omega | assumption), if_neg (by first | omega | assumption), if_pos (by first | omega | assumption)]; done) | (rw [if_neg (by first | omega | assumption), if_neg (by first | omega | assumption), if_neg (by first | omega | assumption), if_neg (by first | omega | assumption), if_neg (by first | omega | assumption)]; done)
  · refine r_aload_n dX6_passSeason_26 rfl (by decide) ?_
    refine r_getr (x := 50) dX6_passSeason_27 flX6_21 sf49 (by decide) (by decide) rfl rfl ?_
    refine r_gi 0 dX6_passSeason_30 flX6_179 sf50 (by decide) (by decide) rfl rfl e0 ?_
    refine r_sipush dX6_passSeason_33 (by decide) (by decide) ?_
    refine r_icmp_ge (tgt := 43) dX6_passSeason_36 (by decide) (fun h36 => ?_) (fun h36 => ?_)
    · refine r_iload_n dX6_passSeason_43 rfl ?_
      refine r_iconst dX6_passSeason_44 (by decide) ?_
      refine r_icmp_eq (tgt := 58) dX6_passSeason_45 (by decide) (fun h45 => ?_) (fun h45 => by exfalso; omega)
      refine r_ret0 dX6_passSeason_58 rfl ?_
      refine ⟨rfl, rfl, ?_⟩
      unfold spX
      first | (rw [if_pos (by first | omega | assumption), if_pos (by first | omega | assumption)]; done) | (rw [if_pos (by first | omega | assumption), if_neg (by first | omega | assumption)]; done) | (rw [if_neg (by first | omega | assumption), if_pos (by first | omega | assumption)]; done) | (rw [if_neg (by first | omega | assumption), if_neg (by first | omega | assumption), if_pos (by first | omega | assumption)]; done) | (rw [if_neg (by first | omega | assumption), if_neg (by first | omega | assumption), if_neg (by first | omega | assumption), if_pos (by first | omega | assumption), if_pos (by first | omega | assumption)]; done) | (rw [if_neg (by first | omega | assumption), if_neg (by first | omega | assumption), if_neg (by first | omega | assumption), if_pos (by first | omega | assumption), if_neg (by first | omega | assumption)]; done) | (rw [if_neg (by first | omega | assumption), if_neg (by first | omega | assumption), if_neg (by first | omega | assumption), if_neg (by first | omega | assumption), if_pos (by first | omega | assumption)]; done) | (rw [if_neg (by first | omega | assumption), if_neg (by first | omega | assumption), if_neg (by first | omega | assumption), if_neg (by first | omega | assumption), if_neg (by first | omega | assumption)]; done)
    · refine r_aload_n dX6_passSeason_39 rfl (by decide) ?_
      refine r_cw0 dX6_passSeason_40 clX6_182 sf49 (by decide) (by decide) rfl (by first | decide | omega) (Nat.le_of_ble_eq_true rfl) ((c_passHour hD e3 hn12)) ⟨Nat.zero_le _, Nat.zero_le _⟩ ?_
      refine r_iload_n dX6_passSeason_43 rfl ?_
      refine r_iconst dX6_passSeason_44 (by decide) ?_
      refine r_icmp_eq (tgt := 58) dX6_passSeason_45 (by decide) (fun h45 => ?_) (fun h45 => by exfalso; omega)
      refine r_ret0 dX6_passSeason_58 rfl ?_
      refine ⟨rfl, rfl, ?_⟩
      unfold spX
      first | (rw [if_pos (by first | omega | assumption), if_pos (by first | omega | assumption)]; done) | (rw [if_pos (by first | omega | assumption), if_neg (by first | omega | assumption)]; done) | (rw [if_neg (by first | omega | assumption), if_pos (by first | omega | assumption)]; done) | (rw [if_neg (by first | omega | assumption), if_neg (by first | omega | assumption), if_pos (by first | omega | assumption)]; done) | (rw [if_neg (by first | omega | assumption), if_neg (by first | omega | assumption), if_neg (by first | omega | assumption), if_pos (by first | omega | assumption), if_pos (by first | omega | assumption)]; done) | (rw [if_neg (by first | omega | assumption), if_neg (by first | omega | assumption), if_neg (by first | omega | assumption), if_pos (by first | omega | assumption), if_neg (by first | omega | assumption)]; done) | (rw [if_neg (by first | omega | assumption), if_neg (by first | omega | assumption), if_neg (by first | omega | assumption), if_neg (by first | omega | assumption), if_pos (by first | omega | assumption)]; done) | (rw [if_neg (by first | omega | assumption), if_neg (by first | omega | assumption), if_neg (by first | omega | assumption), if_neg (by first | omega | assumption), if_neg (by first | omega | assumption)]; done)
def sePre (M : Me) (u : Int) : Me := up (keC M) 50 1 (u * 2 + 167)
theorem CI.se {M : Me} (h : CI M) {u : Int} (hu : 0 ≤ u ∧ u ≤ 9999) : CI (sePre M u) := h.ke.g (by rw [show sePre M u 50 0 = keC M 50 0 from up_ne (by omega)]; exact h.ke.h) (by rw [show sePre M u 50 1 = u * 2 + 167 from up_eq ⟨rfl, rfl⟩]; omega) (by rw [show sePre M u 50 4 = keC M 50 4 from up_ne (by omega)]; exact h.ke.b) (by rw [show sePre M u 55 0 = keC M 55 0 from up_ne (by omega)]; exact h.ke.s) (by rw [show sePre M u 55 1 = keC M 55 1 from up_ne (by omega)]; exact h.ke.f) (fun a j q => up_ne (by omega))
theorem l_seasonStep {x y z : Int} {M : Me} (h : CI M) {n : Nat} (hn : M 50 3 = (n : Int)) (hn12 : n ≤ 12) {u : Int} {N : Nat} : ∀ (m i : Nat), m + i = N → N ≤ 40 → V kX6_seasonStep 0 0 7 none (Ex (some (0, seS M n N 50 0)) (Sf x y z) (seS M n N)) 27 [(1, 49), (0, u), (0, (N : Int)), (0, (i : Int))] [] (Sf x y z) (seS M n i) 0 0 := by
  intro m
  induction m with
  | zero =>
    intro i hi hN
    obtain rfl : i = N := by omega
    refine r_iload_n dX6_seasonStep_27 rfl ?_
    refine r_iload_n dX6_seasonStep_28 rfl ?_
    refine r_icmp_ge (tgt := 42) dX6_seasonStep_29 (by decide) (fun h29 => ?_) (fun h29 => by exfalso; omega)
    refine r_aload_n dX6_seasonStep_42 rfl (by decide) ?_
    refine r_getr (x := 50) dX6_seasonStep_43 flX6_21 sf49 (by decide) (by decide) rfl rfl ?_
    refine r_gi 0 dX6_seasonStep_46 flX6_179 sf50 (by decide) (by decide) rfl rfl rfl ?_
    refine r_iret dX6_seasonStep_49 rfl ?_
    exact ⟨rfl, rfl, rfl⟩
  | succ m ih =>
    intro i hi hN
    have hI := seS_w h hn i
    refine r_iload_n dX6_seasonStep_27 rfl ?_
    refine r_iload_n dX6_seasonStep_28 rfl ?_
    refine r_icmp_ge (tgt := 42) dX6_seasonStep_29 (by decide) (fun h29 => by exfalso; omega) (fun h29 => ?_)
    refine r_aload_n dX6_seasonStep_32 rfl (by decide) ?_
    refine r_cw0 dX6_seasonStep_33 clX6_188 sf49 (by decide) (by decide) rfl (by first | decide | omega) (Nat.le_of_ble_eq_true rfl) ((c_passSeason hI.1 ((hI.2 50 3 (by omega)).trans hn) hn12)) ⟨Nat.zero_le _, Nat.zero_le _⟩ ?_
    refine V.cm rfl (show _ = seS M n (i + 1) from rfl) ?_
    refine r_iinc dX6_seasonStep_36 rfl rfl (by decide) (w32_id (by omega)) st3 ?_
    refine r_goto (tgt := 27) dX6_seasonStep_39 (by decide) ?_
    exact ih (i + 1) (by omega) hN
theorem c_seasonStep {x y z : Int} {M : Me} (h : CI M) {n : Nat} (hn : M 50 3 = (n : Int)) (hn12 : n ≤ 12) {u : Int} (hu : 0 ≤ u ∧ u ≤ 9999) {N : Nat} (hN : N ≤ 40) : Con kX6_seasonStep 7 0 0 [(1, 49), (0, u), (0, (N : Int))] (Sf x y z) M (Ex (some (0, seS (sePre M u) n N 50 0)) (Sf x y z) (seS (sePre M u) n N)) := by
  refine Con.ofV (al := [(1, 49), (0, u), (0, (N : Int)), (9, 0)]) 1 (by decide) (Nat.le_of_ble_eq_true rfl) rfl ?_
  refine r_aload_n dX6_seasonStep_0 rfl (by decide) ?_
  refine r_getr (x := 55) dX6_seasonStep_1 flX6_28 sf49 (by decide) (by decide) rfl rfl ?_
  refine r_aload_n dX6_seasonStep_4 rfl (by decide) ?_
  refine r_getr (x := 50) dX6_seasonStep_5 flX6_21 sf49 (by decide) (by decide) rfl rfl ?_
  refine r_cw1 dX6_seasonStep_8 clX6_136 sf55 (by decide) (by decide) rfl (by first | decide | omega) (Nat.le_of_ble_eq_true rfl) ((c_keep h.s h.f)) ⟨Nat.zero_le _, Nat.zero_le _⟩ ?_
  refine r_aload_n dX6_seasonStep_11 rfl (by decide) ?_
  refine r_getr (x := 50) dX6_seasonStep_12 flX6_21 sf49 (by decide) (by decide) rfl rfl ?_
  refine r_iload_n dX6_seasonStep_15 rfl ?_
  refine r_iconst dX6_seasonStep_16 (by decide) ?_
  refine r_imul dX6_seasonStep_17 (w32_id (by omega)) ?_
  refine r_sipush dX6_seasonStep_18 (by decide) (by decide) ?_
  refine r_iadd dX6_seasonStep_21 (w32_id (by omega)) ?_
  refine r_pi 1 dX6_seasonStep_22 fpX6_185 sf50 (by decide) (by decide) rfl rfl ?_
  refine V.cm rfl (show _ = sePre M u from rfl) ?_
  refine r_iconst dX6_seasonStep_25 (by decide) ?_
  refine r_istore_n dX6_seasonStep_26 rfl (by decide) st3 ?_
  exact l_seasonStep (h.se hu) ((up_ne (by omega)).trans ((keC_o (by omega)).trans hn)) hn12 N 0 (by omega) hN
theorem b01 (x : Int) : and32 x 1 = 0 ∨ and32 x 1 = 1 := by
  have e1 : ∀ j, j < 32 → tb 1 j = decide (j = 0) := fun j hj => by
    have := tb_shl1 (c := 0) (by decide) hj
    rwa [show shl32 1 ((0 : Nat) : Int) = 1 from rfl] at this
  by_cases h : tb x 0 = true
  · refine Or.inr (tb_ext (and32_in _ _) (by decide) (fun j hj => ?_))
    rw [tb_and, e1 j hj]
    by_cases q : j = 0
    · subst q; rw [h]; rfl
    · rw [decide_eq_false q, Bool.and_false]
  · refine Or.inl (tb_ext (and32_in _ _) (by decide) (fun j hj => ?_))
    rw [tb_and, e1 j hj, tb_0]
    by_cases q : j = 0
    · subst q; rw [Bool.eq_false_iff.mpr h]; rfl
    · rw [decide_eq_false q, Bool.and_false]
def wsC (M : Me) (n : Nat) (s : Int) : Int := isum (fun c : Int => and32 (shr32 s c) 1 = 1) (fun c : Int => M 212 c) n
theorem wsC_s {M : Me} {n : Nat} {s : Int} : wsC M (n + 1) s = wsC M n s + and32 (shr32 s n) 1 * M 212 n := by
  unfold wsC
  rcases b01 (shr32 s n) with h | h
  · rw [isum_f (p := fun c : Int => and32 (shr32 s c) 1 = 1) (f := fun c : Int => M 212 c) (by rw [h]; decide), h, Int.zero_mul]
  · rw [isum_t (p := fun c : Int => and32 (shr32 s c) 1 = 1) (f := fun c : Int => M 212 c) h, h, Int.one_mul]
theorem wsC_b {M : Me} {s : Int} {n : Nat} (hw : ∀ c : Int, 0 ≤ c → c < n → -9 ≤ M 212 c ∧ M 212 c ≤ 9) (hn : n ≤ 12) : -108 ≤ wsC M n s ∧ wsC M n s ≤ 108 := by
  have := isum_b (p := fun c : Int => and32 (shr32 s c) 1 = 1) (f := fun c : Int => M 212 c) (b := 9) (n := n) (by decide) (fun i hi => hw i (by omega) (by omega))
  unfold wsC
  omega
theorem l_worthOfC {x y z : Int} {M : Me} {s : Int} {n : Nat} (hn : M 50 3 = (n : Int)) (hn12 : n ≤ 12) (hw : ∀ c : Int, 0 ≤ c → c < n → -9 ≤ M 212 c ∧ M 212 c ≤ 9) : ∀ (m i : Nat), m + i = n → V kX6_worthOf 0 0 0 none (Ex (some (0, wsC M n s)) (Sf x y z) M) 4 [(1, 49), (0, s), (0, wsC M i s), (0, (i : Int))] [] (Sf x y z) M 0 0 := by
  intro m
  induction m with
  | zero =>
    intro i hi
    obtain rfl : i = n := by omega
    refine r_iload_n dX6_worthOf_4 rfl ?_
    refine r_aload_n dX6_worthOf_5 rfl (by decide) ?_
    refine r_getr (x := 50) dX6_worthOf_6 flX6_21 sf49 (by decide) (by decide) rfl rfl ?_
    refine r_gi 3 dX6_worthOf_9 flX6_111 sf50 (by decide) (by decide) rfl rfl hn ?_
    refine r_icmp_ge (tgt := 36) dX6_worthOf_12 (by decide) (fun h12 => ?_) (fun h12 => by exfalso; omega)
    refine r_iload_n dX6_worthOf_36 rfl ?_
    refine r_iret dX6_worthOf_37 rfl ?_
    exact Ex.rf
  | succ m ih =>
    intro i hi
    have hb := wsC_b (M := M) (s := s) (n := i) (fun c h0 h1 => hw c h0 (by omega)) (by omega)
    have hb2 := hw i (by omega) (by omega)
    refine r_iload_n dX6_worthOf_4 rfl ?_
    refine r_aload_n dX6_worthOf_5 rfl (by decide) ?_
    refine r_getr (x := 50) dX6_worthOf_6 flX6_21 sf49 (by decide) (by decide) rfl rfl ?_
    refine r_gi 3 dX6_worthOf_9 flX6_111 sf50 (by decide) (by decide) rfl rfl hn ?_
    refine r_icmp_ge (tgt := 36) dX6_worthOf_12 (by decide) (fun h12 => by exfalso; omega) (fun h12 => ?_)
    refine r_iload_n dX6_worthOf_15 rfl ?_
    refine r_iload_n dX6_worthOf_16 rfl ?_
    refine r_iload_n dX6_worthOf_17 rfl ?_
    refine r_ishr dX6_worthOf_18 rfl ?_
    refine r_iconst dX6_worthOf_19 (by decide) ?_
    refine r_iand dX6_worthOf_20 rfl ?_
    refine r_aload_n dX6_worthOf_21 rfl (by decide) ?_
    refine r_getr (x := 212) dX6_worthOf_22 flX6_48 sf49 (by decide) (by decide) rfl rfl ?_
    refine r_iload_n dX6_worthOf_25 rfl ?_
    refine r_iald dX6_worthOf_26 sf212 (by decide) (by omega) (by omega) (by decide) rfl ?_
    refine r_imul dX6_worthOf_27 (w32_id (by rcases b01 (shr32 s i) with q | q <;> rw [q] <;> omega)) ?_
    refine r_iadd dX6_worthOf_28 (w32_id (by rcases b01 (shr32 s i) with q | q <;> rw [q] <;> omega)) ?_
    refine r_istore_n dX6_worthOf_29 rfl (by decide) st2 ?_
    refine r_iinc dX6_worthOf_30 rfl rfl (by decide) (w32_id (by omega)) st3 ?_
    refine r_goto (tgt := 4) dX6_worthOf_33 (by decide) ?_
    exact V.al (by rw [wsC_s]; rfl) (ih (i + 1) (by omega))
theorem c_worthOf {x y z : Int} {M : Me} {s : Int} {n : Nat} (hn : M 50 3 = (n : Int)) (hn12 : n ≤ 12) (hw : ∀ c : Int, 0 ≤ c → c < n → -9 ≤ M 212 c ∧ M 212 c ≤ 9) : Con kX6_worthOf 0 0 0 [(1, 49), (0, s)] (Sf x y z) M (Ex (some (0, wsC M n s)) (Sf x y z) M) := by
  refine Con.ofV (al := [(1, 49), (0, s), (9, 0), (9, 0)]) 2 (by decide) (Nat.le_of_ble_eq_true rfl) rfl ?_
  refine r_iconst dX6_worthOf_0 (by decide) ?_
  refine r_istore_n dX6_worthOf_1 rfl (by decide) st2 ?_
  refine r_iconst dX6_worthOf_2 (by decide) ?_
  refine r_istore_n dX6_worthOf_3 rfl (by decide) st3 ?_
  exact l_worthOfC hn hn12 hw n 0 (by omega)
def tk1 (M : Me) (l i : Int) : Me := fun a j => if a = 51 ∧ l ≤ j ∧ j < i then M 208 j else M a j
theorem tk1_o {M : Me} {l i a j : Int} (h : ¬ (a = 51 ∧ l ≤ j ∧ j < i)) : tk1 M l i a j = M a j := if_neg h
theorem tk1_0 {M : Me} {l : Int} : tk1 M l l = M := by funext a j; exact tk1_o (by omega)
theorem tk1_s {M : Me} {l i v : Int} (hl : l ≤ i) (hv : v = M 208 i) : up (tk1 M l i) 51 i v = tk1 M l (i + 1) := by
  subst hv
  funext a j
  unfold up tk1
  by_cases h : a = 51 ∧ j = i
  · obtain ⟨rfl, rfl⟩ := h
    rw [if_pos ⟨rfl, rfl⟩, if_pos (by omega)]
  · rw [if_neg h]
    by_cases h2 : a = 51 ∧ l ≤ j ∧ j < i
    · rw [if_pos h2, if_pos (by omega)]
    · rw [if_neg h2, if_neg (by omega)]
def tk2 (M : Me) (l i : Int) : Me := fun a j => if (a = 52 ∧ l ≤ j ∧ j < i) then 0 else if a = 53 ∧ l ≤ j ∧ j < i then M 211 j else M a j
theorem tk2_o {M : Me} {l i a j : Int} (h : ¬ ((a = 52 ∨ a = 53) ∧ l ≤ j ∧ j < i)) : tk2 M l i a j = M a j := by
  unfold tk2
  rw [if_neg (by omega), if_neg (by omega)]
theorem tk2_0 {M : Me} {l : Int} : tk2 M l l = M := by funext a j; exact tk2_o (by omega)
theorem tk2_s {M : Me} {l i v : Int} (hl : l ≤ i) (hv : v = M 211 i) : up (up (tk2 M l i) 52 i 0) 53 i v = tk2 M l (i + 1) := by
  subst hv
  funext a j
  unfold up tk2
  by_cases h : a = 53 ∧ j = i
  · obtain ⟨rfl, rfl⟩ := h
    rw [if_pos ⟨rfl, rfl⟩, if_neg (by omega), if_pos (by omega)]
  · rw [if_neg h]
    by_cases h3 : a = 52 ∧ j = i
    · obtain ⟨rfl, rfl⟩ := h3
      rw [if_pos ⟨rfl, rfl⟩, if_pos (by omega)]
    · rw [if_neg h3]
      by_cases h2 : a = 52 ∧ l ≤ j ∧ j < i
      · rw [if_pos h2, if_pos (by omega)]
      · rw [if_neg h2, if_neg (show ¬ (a = 52 ∧ l ≤ j ∧ j < i + 1) by omega)]
        by_cases h4 : a = 53 ∧ l ≤ j ∧ j < i
        · rw [if_pos h4, if_pos (by omega)]
        · rw [if_neg h4, if_neg (by omega)]
/-- where the step lies that is taken back -/
def ubQ (M : Me) : Int := kp_s M (M 55 0 - 1)
def ub1 (M : Me) : Me := mcp (up M 55 0 (M 55 0 - 1)) 50 (ubQ M)
def ub2 (M : Me) : Me := tk1 (ub1 M) (M (ubQ M) 2) (max (M (ubQ M) 2) (M 50 2))
def ub3 (M : Me) : Me := tk2 (ub2 M) (M (ubQ M) 3) (max (M (ubQ M) 3) (M 50 3))
def ubM (M : Me) : Me := if M 55 0 ≤ 0 then M else up (up (ub3 M) 50 2 (M 50 2)) 50 3 (M 50 3)
def ubV (M : Me) : Int := if M 55 0 ≤ 0 then -1 else M 55 0 - 1
theorem l_back1 {x y z q np nc l : Int} {N : Me} {Q9 : Option AV → Sh → Me → Prop} (h5 : np ≤ 5) (hl : 0 ≤ l) (k9 : V kX6_takeBack 0 0 2 none Q9 101 [(1, 49), (1, q), (0, np), (0, nc), (9, 0)] [] (Sf x y z) (tk1 N l (max l np)) 0 0) : ∀ (m : Nat) (i : Int), i + m = max l np → l ≤ i → V kX6_takeBack 0 0 2 none Q9 72 [(1, 49), (1, q), (0, np), (0, nc), (0, i)] [] (Sf x y z) (tk1 N l i) 0 0 := by
  intro m
  induction m with
  | zero =>
    intro i hi h0
    obtain rfl : i = max l np := by omega
    refine r_iload dX6_takeBack_72 rfl ?_
    refine r_iload_n dX6_takeBack_74 rfl ?_
    refine r_icmp_ge (tgt := 101) dX6_takeBack_75 (by decide) (fun h75 => ?_) (fun h75 => by exfalso; omega)
    exact wk4 k9
  | succ m ih =>
    intro i hi h0
    refine r_iload dX6_takeBack_72 rfl ?_
    refine r_iload_n dX6_takeBack_74 rfl ?_
    refine r_icmp_ge (tgt := 101) dX6_takeBack_75 (by decide) (fun h75 => by exfalso; omega) (fun h75 => ?_)
    refine r_aload_n dX6_takeBack_78 rfl (by decide) ?_
    refine r_getr (x := 50) dX6_takeBack_79 flX6_21 sf49 (by decide) (by decide) rfl rfl ?_
    refine r_getr (x := 51) dX6_takeBack_82 flX6_121 sf50 (by decide) (by decide) rfl rfl ?_
    refine r_iload dX6_takeBack_85 rfl ?_
    refine r_aload_n dX6_takeBack_87 rfl (by decide) ?_
    refine r_getr (x := 208) dX6_takeBack_88 flX6_36 sf49 (by decide) (by decide) rfl rfl ?_
    refine r_iload dX6_takeBack_91 rfl ?_
    refine r_iald dX6_takeBack_93 sf208 (by decide) (by omega) (by omega) (by decide) (tk1_o (by omega)) ?_
    refine r_iast dX6_takeBack_94 sf51 (by decide) (by omega) (by omega) (by decide) rfl ?_
    refine V.cm rfl (tk1_s h0 rfl) ?_
    refine r_iinc dX6_takeBack_95 rfl rfl (by decide) (w32_id (by omega)) st4 ?_
    refine r_goto (tgt := 72) dX6_takeBack_98 (by decide) ?_
    exact ih (i + 1) (by omega) (by omega)
theorem l_back2 {x y z q np nc l : Int} {N : Me} {Q9 : Option AV → Sh → Me → Prop} (h12 : nc ≤ 12) (hl : 0 ≤ l) (k9 : V kX6_takeBack 0 0 2 none Q9 125 [(1, 49), (1, q), (0, np), (0, nc), (9, 0)] [] (Sf x y z) (tk2 N l (max l nc)) 0 0) : ∀ (m : Nat) (i : Int), i + m = max l nc → l ≤ i → V kX6_takeBack 0 0 2 none Q9 107 [(1, 49), (1, q), (0, np), (0, nc), (0, i)] [] (Sf x y z) (tk2 N l i) 0 0 := by
  intro m
  induction m with
  | zero =>
    intro i hi h0
    obtain rfl : i = max l nc := by omega
    refine r_iload dX6_takeBack_107 rfl ?_
    refine r_iload_n dX6_takeBack_109 rfl ?_
    refine r_icmp_ge (tgt := 125) dX6_takeBack_110 (by decide) (fun h110 => ?_) (fun h110 => by exfalso; omega)
    exact wk4 k9
  | succ m ih =>
    intro i hi h0
    refine r_iload dX6_takeBack_107 rfl ?_
    refine r_iload_n dX6_takeBack_109 rfl ?_
    refine r_icmp_ge (tgt := 125) dX6_takeBack_110 (by decide) (fun h110 => by exfalso; omega) (fun h110 => ?_)
    refine r_aload_n dX6_takeBack_113 rfl (by decide) ?_
    refine r_iload dX6_takeBack_114 rfl ?_
    refine r_cw1 dX6_takeBack_116 clX6_127 sf49 (by decide) (by decide) rfl (by first | decide | omega) (Nat.le_of_ble_eq_true rfl) ((s_setAsTold (by omega))) ⟨Nat.zero_le _, Nat.zero_le _⟩ ?_
    refine V.cm rfl (tk2_s h0 (tk2_o (by omega))) ?_
    refine r_iinc dX6_takeBack_119 rfl rfl (by decide) (w32_id (by omega)) st4 ?_
    refine r_goto (tgt := 107) dX6_takeBack_122 (by decide) ?_
    exact ih (i + 1) (by omega) (by omega)
theorem c_takeBack {x y z : Int} {M : Me} (h : CI M) (hq : 0 ≤ M (ubQ M) 2 ∧ 0 ≤ M (ubQ M) 3) : Con kX6_takeBack 2 0 0 [(1, 49)] (Sf x y z) M (Ex (some (0, ubV M)) (Sf x y z) (ubM M)) := by
  refine Con.ofV (al := [(1, 49), (9, 0), (9, 0), (9, 0), (9, 0)]) 4 (by decide) (Nat.le_of_ble_eq_true rfl) rfl ?_
  have h2 := h.p
  have h3 := h.c
  have hs := h.s
  have hf := h.f
  have hkb := kp_sb (M := M) (i := M 55 0 - 1)
  have hkq : ubQ M = kp_s M (M 55 0 - 1) := rfl
  have ms0 : MS (Sf x y z) (ubQ M) := ms_kps
  have hq3 : ub2 M (ubQ M) 3 = M (ubQ M) 3 := (tk1_o (by omega)).trans ((mcp_o (by omega)).trans (up_ne (by omega)))
  have hcnt : up (up (ub3 M) 50 2 (M 50 2)) 50 3 (M 50 3) 55 0 = M 55 0 - 1 := (up_ne (by omega)).trans ((up_ne (by omega)).trans ((tk2_o (by omega)).trans ((tk1_o (by omega)).trans ((mcp_o (by omega)).trans (up_eq ⟨rfl, rfl⟩)))))
  refine r_aload_n dX6_takeBack_0 rfl (by decide) ?_
  refine r_getr (x := 55) dX6_takeBack_1 flX6_28 sf49 (by decide) (by decide) rfl rfl ?_
  refine r_gi 0 dX6_takeBack_4 flX6_191 sf55 (by decide) (by decide) rfl rfl rfl ?_
  refine r_if_gt (tgt := 12) dX6_takeBack_7 (by decide) (fun h7 => ?_) (fun h7 => ?_)
  · refine r_aload_n dX6_takeBack_12 rfl (by decide) ?_
    refine r_getr (x := 55) dX6_takeBack_13 flX6_28 sf49 (by decide) (by decide) rfl rfl ?_
    refine r_aload_n dX6_takeBack_16 rfl (by decide) ?_
    refine r_getr (x := 55) dX6_takeBack_17 flX6_28 sf49 (by decide) (by decide) rfl rfl ?_
    refine r_gi 0 dX6_takeBack_20 flX6_191 sf55 (by decide) (by decide) rfl rfl rfl ?_
    refine r_iconst dX6_takeBack_23 (by decide) ?_
    refine r_isub dX6_takeBack_24 (w32_id (by omega)) ?_
    refine r_cv1 dX6_takeBack_25 clX6_194 sf55 (by decide) (by decide) rfl (by first | decide | omega) (Nat.le_of_ble_eq_true rfl) ((c_kept_s (by omega) hf)) ⟨Nat.zero_le _, Nat.zero_le _⟩ (fun _ => ?_)
    refine V.cm rfl rfl (?_ : V _ _ _ _ _ _ _ _ ((1, ubQ M) :: _) _ _ _ _)
    refine r_astore_n dX6_takeBack_28 (by omega) rfl (by decide) st1 ?_
    refine r_aload_n dX6_takeBack_29 rfl (by decide) ?_
    refine r_getr (x := 55) dX6_takeBack_30 flX6_28 sf49 (by decide) (by decide) rfl rfl ?_
    refine r_dup dX6_takeBack_33 (Nat.ne_of_beq_eq_false rfl) ?_
    refine r_gi 0 dX6_takeBack_34 flX6_191 sf55 (by decide) (by decide) rfl rfl rfl ?_
    refine r_iconst dX6_takeBack_37 (by decide) ?_
    refine r_isub dX6_takeBack_38 (w32_id (by omega)) ?_
    refine r_pi 0 dX6_takeBack_39 fpX6_191 sf55 (by decide) (by decide) rfl rfl ?_
    refine r_aload_n dX6_takeBack_42 rfl (by decide) ?_
    refine r_getr (x := 50) dX6_takeBack_43 flX6_21 sf49 (by decide) (by decide) rfl rfl ?_
    refine r_gi 2 dX6_takeBack_46 flX6_108 sf50 (by decide) (by decide) rfl rfl (up_ne (by omega)) ?_
    refine r_istore_n dX6_takeBack_49 rfl (by decide) st2 ?_
    refine r_aload_n dX6_takeBack_50 rfl (by decide) ?_
    refine r_getr (x := 50) dX6_takeBack_51 flX6_21 sf49 (by decide) (by decide) rfl rfl ?_
    refine r_gi 3 dX6_takeBack_54 flX6_111 sf50 (by decide) (by decide) rfl rfl (up_ne (by omega)) ?_
    refine r_istore_n dX6_takeBack_57 rfl (by decide) st3 ?_
    refine r_aload_n dX6_takeBack_58 rfl (by decide) ?_
    refine r_getr (x := 50) dX6_takeBack_59 flX6_21 sf49 (by decide) (by decide) rfl rfl ?_
    refine r_aload_n dX6_takeBack_62 rfl (by omega) ?_
    refine r_cw1 dX6_takeBack_63 clX6_92 sf50 (by decide) (by decide) rfl (by first | decide | omega) (Nat.le_of_ble_eq_true rfl) ((c_mcopy ms_50 ms0 (by omega))) ⟨Nat.zero_le _, Nat.zero_le _⟩ ?_
    refine V.cm rfl (show _ = ub1 M from rfl) ?_
    refine r_aload_n dX6_takeBack_66 rfl (by omega) ?_
    refine r_gi 2 dX6_takeBack_67 flX6_108 ms0.1 (by decide) (by omega) rfl rfl (show _ = M (ubQ M) 2 from (mcp_o (by omega)).trans (up_ne (by omega))) ?_
    refine r_istore dX6_takeBack_70 rfl (by decide) st4 ?_
    refine V.cm rfl tk1_0.symm (l_back1 (N := ub1 M) h2.2 hq.1 ?_ (max (M (ubQ M) 2) (M 50 2) - M (ubQ M) 2).toNat _ (by omega) (Int.le_refl _))
    refine V.cm rfl (show _ = ub2 M from rfl) ?_
    refine r_aload_n dX6_takeBack_101 rfl (by omega) ?_
    refine r_gi 3 dX6_takeBack_102 flX6_111 ms0.1 (by decide) (by omega) rfl rfl (show _ = M (ubQ M) 3 from hq3) ?_
    refine r_istore dX6_takeBack_105 rfl (by decide) st4 ?_
    refine l_back2 (N := ub2 M) h3.2 hq.2 ?_ (max (M (ubQ M) 3) (M 50 3) - M (ubQ M) 3).toNat _ (by omega) (Int.le_refl _) |> V.cm rfl tk2_0.symm
    refine V.cm rfl (show _ = ub3 M from rfl) ?_
    refine r_aload_n dX6_takeBack_125 rfl (by decide) ?_
    refine r_getr (x := 50) dX6_takeBack_126 flX6_21 sf49 (by decide) (by decide) rfl rfl ?_
    refine r_iload_n dX6_takeBack_129 rfl ?_
    refine r_pi 2 dX6_takeBack_130 fpX6_108 sf50 (by decide) (by decide) rfl rfl ?_
    refine r_aload_n dX6_takeBack_133 rfl (by decide) ?_
    refine r_getr (x := 50) dX6_takeBack_134 flX6_21 sf49 (by decide) (by decide) rfl rfl ?_
    refine r_iload_n dX6_takeBack_137 rfl ?_
    refine r_pi 3 dX6_takeBack_138 fpX6_111 sf50 (by decide) (by decide) rfl rfl ?_
    refine r_aload_n dX6_takeBack_141 rfl (by decide) ?_
    refine r_getr (x := 55) dX6_takeBack_142 flX6_28 sf49 (by decide) (by decide) rfl rfl ?_
    refine r_gi 0 dX6_takeBack_145 flX6_191 sf55 (by decide) (by decide) rfl rfl hcnt ?_
    refine r_iret dX6_takeBack_148 rfl ?_
    exact ⟨by rw [show ubV M = M 55 0 - 1 from if_neg (by omega)], rfl, (if_neg (by omega)).symm⟩
  · refine r_iconst dX6_takeBack_10 (by decide) ?_
    refine r_iret dX6_takeBack_11 rfl ?_
    exact ⟨by rw [show ubV M = -1 from if_pos (by omega)], rfl, by rw [show ubM M = M from if_pos (by omega)]⟩
