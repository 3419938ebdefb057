/-- what the reading leaves alone -/
def FX (x : Int) (M N : Me) : Prop := ∀ a j : Int, ¬ (a = 2 ∧ j ≠ 0) → ¬ (x ≤ a ∧ a ≤ x + 7) → N a j = M a j
theorem FX.r {x : Int} {M : Me} : FX x M M := fun _ _ _ _ => rfl
theorem FX.t {x : Int} {M N O : Me} (h : FX x M N) (k : FX x N O) : FX x M O := fun a j p q => (k a j p q).trans (h a j p q)
theorem FX.u {x : Int} {M : Me} {a j v : Int} (h : (a = 2 ∧ j ≠ 0) ∨ (x ≤ a ∧ a ≤ x + 7)) : FX x M (up M a j v) := fun _ _ p q => up_ne (by omega)
theorem FX.go {x : Int} {M : Me} {n : Nat} : FX x M (goC M n) := fun _ _ p q => goC_o (by omega)
theorem FX.rf {x : Int} {M : Me} {w : Int} : FX x M (rfC M w) := (FX.u (Or.inl ⟨rfl, by decide⟩)).t (FX.u (Or.inl ⟨rfl, by decide⟩))
theorem FX.ad {x : Int} {M : Me} {k v : Int} : FX x M (adC M x k v) := by
  unfold adC
  split
  · exact (FX.u (Or.inr (by omega))).t (FX.u (Or.inr (by omega)))
  · exact FX.r
theorem FX.am {x : Int} {M : Me} {j : Int} : FX x M (amC M x j) := by
  unfold amC
  split
  · exact FX.u (Or.inr (by omega))
  · exact FX.r
theorem FX.te {x : Int} {M : Me} {i v : Int} : FX x M (teC M x i v) := by
  unfold teC
  split
  · exact FX.u (Or.inr (by omega))
  · exact FX.r
theorem FX.be {x : Int} {M : Me} {k : Int} : FX x M (beC M x k) := by
  unfold beC
  split
  · exact (FX.u (Or.inr (by omega))).t (FX.u (Or.inr (by omega)))
  · exact FX.r
theorem FX.em {x : Int} {M : Me} : FX x M (emC M x) := fun _ _ p q => emC_o (by omega)
theorem FX.pa {x : Int} {M : Me} {n : Nat} {due : Int} : FX x M (paC M n due).2 := by
  unfold paC
  split
  · exact FX.go
  · exact FX.rf
theorem FX.pk {x : Int} {M : Me} {n : Nat} {due : Int} : FX x M (pkC M x n due).2 := by
  unfold pkC
  split
  · exact FX.ad.t FX.go
  · exact FX.rf
theorem FX.rn {x : Int} {M : Me} {n : Nat} {i l m : Int} : FX x M (rnC M x n i l m).2 := by
  unfold rnC
  (repeat' split)
  · exact FX.rf
  · exact FX.rf
  · exact FX.te.t FX.go
theorem FX.le {x : Int} {M : Me} {n : Nat} {k : Int} : FX x M (leC M x n k).2 := by
  unfold leC
  (repeat' split)
  · exact FX.rf
  · exact FX.rf
  · exact FX.ad.t FX.go
theorem FX.lp {x : Int} {n : Nat} {g : Me → RV} {p q : Int} (hg : ∀ M, FX x M (g M).2) : ∀ (c : Nat) (s : RV), FX x s.2 (lpC n x g p q c s).2 := by
  intro c
  induction c with
  | zero => intro s; exact FX.r
  | succ c ih =>
    intro s
    by_cases q : s.1 ≠ 0 ∧ (s.2 2 7 = p ∨ s.2 2 7 = q)
    · rw [lpC_t q]
      exact (FX.go.t ((hg _).t FX.ad)).t (ih _)
    · rw [lpC_f q]; exact FX.r
theorem FX.bd {x : Int} {n : Nat} {R : RF} (hR : ∀ fn o k M, FX x M (R fn o k M).2) : ∀ fn o k M, FX x M (rdB n x R fn o k M).2 := by
  intro fn o k M
  unfold rdB
  (repeat' split)
  · exact (hR _ _ _ _).t (FX.lp (fun N => hR _ _ _ _) _ _)
  · exact (hR _ _ _ _).t (FX.lp (fun N => hR _ _ _ _) _ _)
  · unfold oneB
    (repeat' split)
    · exact FX.le
    · exact FX.rf
    · exact FX.rf
    · exact FX.go.t (hR _ _ _ _)
    · exact FX.go.t (hR _ _ _ _)
    · exact (FX.go.t (hR _ _ _ _)).t FX.pa
    · exact FX.go.t (hR _ _ _ _)
  · exact (hR 2 o 0 M).t FX.ad
  · have h1 := hR 5 o 0 M
    have h2 := h1.t (FX.pk (n := n) (due := 38))
    have h3 := h2.t (hR 0 o 0 _)
    have h4 := h3.t (FX.pk (n := n) (due := 39))
    have h5 := (h4.t (FX.am (j := (R 5 o 0 M).2 x 1))).t (hR 0 o 0 _)
    unfold choB
    dsimp only
    split
    · exact h1
    · split
      · exact h2
      · split
        · exact h3
        · split
          · exact h4
          · split
            · exact h5
            · exact (h5.t FX.am).t FX.pa
  · exact (hR _ _ _ _).t (FX.lp (fun N => hR _ _ _ _) _ _)
  · exact (hR _ _ _ _).t (FX.lp (fun N => hR _ _ _ _) _ _)
  · have h1 := hR 0 o 0 M
    have h2 := (h1.t (FX.go (n := n))).t (hR 0 o 0 _)
    unfold askB
    (repeat' split)
    · exact hR _ _ _ _
    · exact FX.rf
    · exact h1
    · exact h1.t FX.rf
    · exact h2.t FX.ad
  · exact (FX.go.t (hR 7 o 0 _)).t FX.ad
theorem FX.rd {x : Int} {n : Nat} : ∀ (f : Nat) (fn o k : Int) (M : Me), FX x M (rdC n x f fn o k M).2 := by
  intro f
  induction f with
  | zero => intro fn o k M; exact FX.r
  | succ f ih => exact FX.bd ih
theorem FX.th {x : Int} {M : Me} {r : RV} {f : Me → RV} (h : FX x M r.2) (hf : ∀ N, FX x N (f N).2) : FX x M (thR r f).2 := by
  unfold thR
  split
  · exact h
  · exact h.t (hf _)
theorem FX.de {x : Int} {M : Me} {n : Nat} {k : Int} : FX x M (deC M x n k).2 := by
  unfold deC
  (repeat' split)
  · exact FX.th FX.rn fun A => FX.th FX.pa fun B => FX.th FX.rn fun C => FX.r
  · exact FX.th FX.rn fun A => FX.th FX.pa fun B => FX.th FX.rn fun C => FX.th FX.pa fun D => FX.th FX.rn fun E => FX.r
  · exact FX.th FX.rn fun A => FX.th FX.pa fun B => FX.th FX.rn fun C => FX.r
  · exact FX.rn
  · exact FX.rn
  · exact FX.rn
  · exact FX.rn
theorem FX.cl {x : Int} {M : Me} {n : Nat} : FX x M (clC M x n).2 := by
  unfold clC
  have u9 : ∀ v : Int, FX x M (up M 2 9 v) := fun v => FX.u (Or.inl ⟨rfl, by decide⟩)
  (repeat' split)
  · exact FX.rf
  · exact (u9 _).t FX.rf
  · exact (u9 _).t FX.rf
  · exact (((u9 _).t FX.be).t FX.go).t (FX.th FX.de fun A => FX.th FX.pa fun B => FX.r)
  · exact ((((u9 _).t FX.be).t FX.go).t (FX.u (Or.inr (by omega)))).t (FX.th (FX.rd _ _ _ _ _) fun A => FX.th FX.pk fun B => FX.r)
theorem FX.rds {x : Int} {n : Nat} : ∀ (c : Nat) (M : Me), FX x M (rdS x n c M).2 := by
  intro c
  induction c with
  | zero => intro M; exact FX.r
  | succ c ih =>
    intro M
    unfold rdS
    split
    · exact FX.r
    · exact FX.th FX.cl ih
theorem FX.read {x : Int} {M : Me} {n : Nat} : FX x M (readC M x n).2 := ((((FX.em.t (FX.u (Or.inl ⟨rfl, by decide⟩))).t (FX.u (Or.inl ⟨rfl, by decide⟩))).t (FX.u (Or.inl ⟨rfl, by decide⟩))).t FX.go).t (FX.rds _ _)
theorem c_hasRoom {x y z : Int} {M : Me} {k : Int} (hk : M 2 0 = k) (hk0 : 0 ≤ k ∧ k ≤ 300) : Con kX4_hasRoom 0 0 0 [(1, 2)] (Sf x y z) M (Ex (some (0, bi (k + 20 ≤ 300))) (Sf x y z) M) := by
  refine Con.ofV (al := [(1, 2)]) 0 (by decide) (Nat.le_of_ble_eq_true rfl) rfl ?_
  refine r_aload_n dX4_hasRoom_0 rfl (by decide) ?_
  refine r_gi 0 dX4_hasRoom_1 flX4_22 sf2 (by decide) (by decide) rfl rfl hk ?_
  refine r_bipush dX4_hasRoom_4 (by decide) (by decide) ?_
  refine r_iadd dX4_hasRoom_6 (w32_id (by omega)) ?_
  refine r_sipush dX4_hasRoom_7 (by decide) (by decide) ?_
  refine r_icmp_gt (tgt := 17) dX4_hasRoom_10 (by decide) (fun h10 => ?_) (fun h10 => ?_)
  · refine r_iconst dX4_hasRoom_17 (by decide) ?_
    refine r_zret dX4_hasRoom_18 rfl (by omega) ?_
    first | exact ⟨by rw [bi_t (by first | assumption | omega)], rfl, rfl⟩ | exact ⟨by rw [bi_f (by first | assumption | omega)], rfl, rfl⟩
  · refine r_iconst dX4_hasRoom_13 (by decide) ?_
    refine r_goto (tgt := 18) dX4_hasRoom_14 (by decide) ?_
    refine r_zret dX4_hasRoom_18 rfl (by omega) ?_
    first | exact ⟨by rw [bi_t (by first | assumption | omega)], rfl, rfl⟩ | exact ⟨by rw [bi_f (by first | assumption | omega)], rfl, rfl⟩
def oneC (M : Me) (b k : Int) : Me := up (up M 3 k b) 2 0 (k + 1)
def fourC (M : Me) (v k : Int) : Me := oneC (oneC (oneC (oneC M (and32 (shr32 v 24) 255) k) (and32 (shr32 v 16) 255) (k + 1)) (and32 (shr32 v 8) 255) (k + 1 + 1)) (and32 (shr32 v 0) 255) (k + 1 + 1 + 1)
theorem fourC_4 {M : Me} {v k : Int} : fourC M v k 2 0 = k + 4 := by
  unfold fourC
  exact (up_eq ⟨rfl, rfl⟩).trans (by omega)
theorem fourC_o {M : Me} {v k a j : Int} (h : ¬ (a = 2 ∧ j = 0) ∧ ¬ (a = 3 ∧ k ≤ j ∧ j < k + 4)) : fourC M v k a j = M a j := by
  unfold fourC oneC
  exact rd_ne h.1 (rd_ne (by omega) (rd_ne h.1 (rd_ne (by omega) (rd_ne h.1 (rd_ne (by omega) (rd_ne h.1 (rd_ne (by omega) rfl)))))))
theorem c_takeT {x y z : Int} {M : Me} {v k : Int} (hk : M 2 0 = k) (hk0 : 0 ≤ k ∧ k ≤ 296) : Con kX4_take 0 0 0 [(1, 2), (0, v)] (Sf x y z) M (Ex (some (0, k + 4)) (Sf x y z) (fourC M v k)) := by
  refine Con.ofV (al := [(1, 2), (0, v), (9, 0)]) 1 (by decide) (Nat.le_of_ble_eq_true rfl) rfl ?_
  refine r_bipush dX4_take_0 (by decide) (by decide) ?_
  refine r_istore_n dX4_take_2 rfl (by decide) st2 ?_
  refine r_iload_n dX4_take_3 rfl ?_
  refine r_if_lt (tgt := 49) dX4_take_4 (by decide) (fun h4 => by exfalso; omega) (fun h4 => ?_)
  refine r_aload_n dX4_take_7 rfl (by decide) ?_
  refine r_gi 0 dX4_take_8 flX4_22 sf2 (by decide) (by decide) rfl rfl (by first | assumption | ((repeat (first | (apply rd_ne; · omega) | (apply rd_eq; · omega) | (apply rd_out; · omega) | (apply rd_in; · omega))); first | assumption | rfl)) ?_
  refine r_sipush dX4_take_11 (by decide) (by decide) ?_
  refine r_icmp_ge (tgt := 49) dX4_take_14 (by decide) (fun h14 => by exfalso; omega) (fun h14 => ?_)
  refine r_aload_n dX4_take_17 rfl (by decide) ?_
  refine r_getr (x := 3) dX4_take_18 flX4_18 sf2 (by decide) (by decide) rfl rfl ?_
  refine r_aload_n dX4_take_21 rfl (by decide) ?_
  refine r_gi 0 dX4_take_22 flX4_22 sf2 (by decide) (by decide) rfl rfl (by first | assumption | ((repeat (first | (apply rd_ne; · omega) | (apply rd_eq; · omega) | (apply rd_out; · omega) | (apply rd_in; · omega))); first | assumption | rfl)) ?_
  refine r_iload_n dX4_take_25 rfl ?_
  refine r_iload_n dX4_take_26 rfl ?_
  refine r_ishr dX4_take_27 rfl ?_
  refine r_sipush dX4_take_28 (by decide) (by decide) ?_
  refine r_iand dX4_take_31 rfl ?_
  refine r_iast dX4_take_32 sf3 (by decide) (by omega) (by omega) (by decide) rfl ?_
  refine r_aload_n dX4_take_33 rfl (by decide) ?_
  refine r_dup dX4_take_34 (Nat.ne_of_beq_eq_false rfl) ?_
  refine r_gi 0 dX4_take_35 flX4_22 sf2 (by decide) (by decide) rfl rfl (by first | assumption | ((repeat (first | (apply rd_ne; · omega) | (apply rd_eq; · omega) | (apply rd_out; · omega) | (apply rd_in; · omega))); first | assumption | rfl)) ?_
  refine r_iconst dX4_take_38 (by decide) ?_
  refine r_iadd dX4_take_39 (w32_id (by omega)) ?_
  refine r_pi 0 dX4_take_40 fpX4_22 sf2 (by decide) (by decide) rfl rfl ?_
  refine r_iinc dX4_take_43 rfl rfl (by decide) (w32_id (by omega)) st2 ?_
  refine r_goto (tgt := 3) dX4_take_46 (by decide) ?_
  refine r_iload_n dX4_take_3 rfl ?_
  refine r_if_lt (tgt := 49) dX4_take_4 (by decide) (fun h4 => by exfalso; omega) (fun h4 => ?_)
  refine r_aload_n dX4_take_7 rfl (by decide) ?_
  refine r_gi 0 dX4_take_8 flX4_22 sf2 (by decide) (by decide) rfl rfl (by first | assumption | ((repeat (first | (apply rd_ne; · omega) | (apply rd_eq; · omega) | (apply rd_out; · omega) | (apply rd_in; · omega))); first | assumption | rfl)) ?_
  refine r_sipush dX4_take_11 (by decide) (by decide) ?_
  refine r_icmp_ge (tgt := 49) dX4_take_14 (by decide) (fun h14 => by exfalso; omega) (fun h14 => ?_)
  refine r_aload_n dX4_take_17 rfl (by decide) ?_
  refine r_getr (x := 3) dX4_take_18 flX4_18 sf2 (by decide) (by decide) rfl rfl ?_
  refine r_aload_n dX4_take_21 rfl (by decide) ?_
  refine r_gi 0 dX4_take_22 flX4_22 sf2 (by decide) (by decide) rfl rfl (by first | assumption | ((repeat (first | (apply rd_ne; · omega) | (apply rd_eq; · omega) | (apply rd_out; · omega) | (apply rd_in; · omega))); first | assumption | rfl)) ?_
  refine r_iload_n dX4_take_25 rfl ?_
  refine r_iload_n dX4_take_26 rfl ?_
  refine r_ishr dX4_take_27 rfl ?_
  refine r_sipush dX4_take_28 (by decide) (by decide) ?_
  refine r_iand dX4_take_31 rfl ?_
  refine r_iast dX4_take_32 sf3 (by decide) (by omega) (by omega) (by decide) rfl ?_
  refine r_aload_n dX4_take_33 rfl (by decide) ?_
  refine r_dup dX4_take_34 (Nat.ne_of_beq_eq_false rfl) ?_
  refine r_gi 0 dX4_take_35 flX4_22 sf2 (by decide) (by decide) rfl rfl (by first | assumption | ((repeat (first | (apply rd_ne; · omega) | (apply rd_eq; · omega) | (apply rd_out; · omega) | (apply rd_in; · omega))); first | assumption | rfl)) ?_
  refine r_iconst dX4_take_38 (by decide) ?_
  refine r_iadd dX4_take_39 (w32_id (by omega)) ?_
  refine r_pi 0 dX4_take_40 fpX4_22 sf2 (by decide) (by decide) rfl rfl ?_
  refine r_iinc dX4_take_43 rfl rfl (by decide) (w32_id (by omega)) st2 ?_
  refine r_goto (tgt := 3) dX4_take_46 (by decide) ?_
  refine r_iload_n dX4_take_3 rfl ?_
  refine r_if_lt (tgt := 49) dX4_take_4 (by decide) (fun h4 => by exfalso; omega) (fun h4 => ?_)
  refine r_aload_n dX4_take_7 rfl (by decide) ?_
  refine r_gi 0 dX4_take_8 flX4_22 sf2 (by decide) (by decide) rfl rfl (by first | assumption | ((repeat (first | (apply rd_ne; · omega) | (apply rd_eq; · omega) | (apply rd_out; · omega) | (apply rd_in; · omega))); first | assumption | rfl)) ?_
  refine r_sipush dX4_take_11 (by decide) (by decide) ?_
  refine r_icmp_ge (tgt := 49) dX4_take_14 (by decide) (fun h14 => by exfalso; omega) (fun h14 => ?_)
  refine r_aload_n dX4_take_17 rfl (by decide) ?_
  refine r_getr (x := 3) dX4_take_18 flX4_18 sf2 (by decide) (by decide) rfl rfl ?_
  refine r_aload_n dX4_take_21 rfl (by decide) ?_
  refine r_gi 0 dX4_take_22 flX4_22 sf2 (by decide) (by decide) rfl rfl (by first | assumption | ((repeat (first | (apply rd_ne; · omega) | (apply rd_eq; · omega) | (apply rd_out; · omega) | (apply rd_in; · omega))); first | assumption | rfl)) ?_
  refine r_iload_n dX4_take_25 rfl ?_
  refine r_iload_n dX4_take_26 rfl ?_
  refine r_ishr dX4_take_27 rfl ?_
  refine r_sipush dX4_take_28 (by decide) (by decide) ?_
  refine r_iand dX4_take_31 rfl ?_
  refine r_iast dX4_take_32 sf3 (by decide) (by omega) (by omega) (by decide) rfl ?_
  refine r_aload_n dX4_take_33 rfl (by decide) ?_
  refine r_dup dX4_take_34 (Nat.ne_of_beq_eq_false rfl) ?_
  refine r_gi 0 dX4_take_35 flX4_22 sf2 (by decide) (by decide) rfl rfl (by first | assumption | ((repeat (first | (apply rd_ne; · omega) | (apply rd_eq; · omega) | (apply rd_out; · omega) | (apply rd_in; · omega))); first | assumption | rfl)) ?_
  refine r_iconst dX4_take_38 (by decide) ?_
  refine r_iadd dX4_take_39 (w32_id (by omega)) ?_
  refine r_pi 0 dX4_take_40 fpX4_22 sf2 (by decide) (by decide) rfl rfl ?_
  refine r_iinc dX4_take_43 rfl rfl (by decide) (w32_id (by omega)) st2 ?_
  refine r_goto (tgt := 3) dX4_take_46 (by decide) ?_
  refine r_iload_n dX4_take_3 rfl ?_
  refine r_if_lt (tgt := 49) dX4_take_4 (by decide) (fun h4 => by exfalso; omega) (fun h4 => ?_)
  refine r_aload_n dX4_take_7 rfl (by decide) ?_
  refine r_gi 0 dX4_take_8 flX4_22 sf2 (by decide) (by decide) rfl rfl (by first | assumption | ((repeat (first | (apply rd_ne; · omega) | (apply rd_eq; · omega) | (apply rd_out; · omega) | (apply rd_in; · omega))); first | assumption | rfl)) ?_
  refine r_sipush dX4_take_11 (by decide) (by decide) ?_
  refine r_icmp_ge (tgt := 49) dX4_take_14 (by decide) (fun h14 => by exfalso; omega) (fun h14 => ?_)
  refine r_aload_n dX4_take_17 rfl (by decide) ?_
  refine r_getr (x := 3) dX4_take_18 flX4_18 sf2 (by decide) (by decide) rfl rfl ?_
  refine r_aload_n dX4_take_21 rfl (by decide) ?_
  refine r_gi 0 dX4_take_22 flX4_22 sf2 (by decide) (by decide) rfl rfl (by first | assumption | ((repeat (first | (apply rd_ne; · omega) | (apply rd_eq; · omega) | (apply rd_out; · omega) | (apply rd_in; · omega))); first | assumption | rfl)) ?_
  refine r_iload_n dX4_take_25 rfl ?_
  refine r_iload_n dX4_take_26 rfl ?_
  refine r_ishr dX4_take_27 rfl ?_
  refine r_sipush dX4_take_28 (by decide) (by decide) ?_
  refine r_iand dX4_take_31 rfl ?_
  refine r_iast dX4_take_32 sf3 (by decide) (by omega) (by omega) (by decide) rfl ?_
  refine r_aload_n dX4_take_33 rfl (by decide) ?_
  refine r_dup dX4_take_34 (Nat.ne_of_beq_eq_false rfl) ?_
  refine r_gi 0 dX4_take_35 flX4_22 sf2 (by decide) (by decide) rfl rfl (by first | assumption | ((repeat (first | (apply rd_ne; · omega) | (apply rd_eq; · omega) | (apply rd_out; · omega) | (apply rd_in; · omega))); first | assumption | rfl)) ?_
  refine r_iconst dX4_take_38 (by decide) ?_
  refine r_iadd dX4_take_39 (w32_id (by omega)) ?_
  refine r_pi 0 dX4_take_40 fpX4_22 sf2 (by decide) (by decide) rfl rfl ?_
  refine r_iinc dX4_take_43 rfl rfl (by decide) (w32_id (by omega)) st2 ?_
  refine r_goto (tgt := 3) dX4_take_46 (by decide) ?_
  refine r_iload_n dX4_take_3 rfl ?_
  refine r_if_lt (tgt := 49) dX4_take_4 (by decide) (fun h4 => ?_) (fun h4 => by exfalso; omega)
  refine r_aload_n dX4_take_49 rfl (by decide) ?_
  refine r_gi 0 dX4_take_50 flX4_22 sf2 (by decide) (by decide) rfl rfl (by first | assumption | ((repeat (first | (apply rd_ne; · omega) | (apply rd_eq; · omega) | (apply rd_out; · omega) | (apply rd_in; · omega))); first | assumption | rfl)) ?_
  refine r_iret dX4_take_53 rfl ?_
  exact ⟨by first | rfl | (congr 2; omega), rfl, rfl⟩
def shV (M : Me) (h : Int) : Int := if 0 ≤ h ∧ h ≤ M 2 0 then h else -1
def shM (M : Me) (h : Int) : Me := if 0 ≤ h ∧ h ≤ M 2 0 then up M 2 0 h else M
theorem c_shorten {x y z : Int} {M : Me} {h : Int} : Con kX4_shorten 0 0 0 [(1, 2), (0, h)] (Sf x y z) M (Ex (some (0, shV M h)) (Sf x y z) (shM M h)) := by
  refine Con.ofV (al := [(1, 2), (0, h)]) 0 (by decide) (Nat.le_of_ble_eq_true rfl) rfl ?_
  refine r_iload_n dX4_shorten_0 rfl ?_
  refine r_if_lt (tgt := 12) dX4_shorten_1 (by decide) (fun h1 => ?_) (fun h1 => ?_)
  · refine r_iconst dX4_shorten_12 (by decide) ?_
    refine r_iret dX4_shorten_13 rfl ?_
    first | exact ⟨by show _ = some (0, shV M h); unfold shV; rw [if_neg (by omega)], rfl, by unfold shM; rw [if_neg (by omega)]⟩ | exact ⟨by show _ = some (0, shV M h); unfold shV; rw [if_pos (by omega)], rfl, by unfold shM; rw [if_pos (by omega)]⟩
  · refine r_iload_n dX4_shorten_4 rfl ?_
    refine r_aload_n dX4_shorten_5 rfl (by decide) ?_
    refine r_gi 0 dX4_shorten_6 flX4_22 sf2 (by decide) (by decide) rfl rfl rfl ?_
    refine r_icmp_le (tgt := 14) dX4_shorten_9 (by decide) (fun h9 => ?_) (fun h9 => ?_)
    · refine r_aload_n dX4_shorten_14 rfl (by decide) ?_
      refine r_iload_n dX4_shorten_15 rfl ?_
      refine r_pi 0 dX4_shorten_16 fpX4_22 sf2 (by decide) (by decide) rfl rfl ?_
      refine r_iload_n dX4_shorten_19 rfl ?_
      refine r_iret dX4_shorten_20 rfl ?_
      first | exact ⟨by show _ = some (0, shV M h); unfold shV; rw [if_neg (by omega)], rfl, by unfold shM; rw [if_neg (by omega)]⟩ | exact ⟨by show _ = some (0, shV M h); unfold shV; rw [if_pos (by omega)], rfl, by unfold shM; rw [if_pos (by omega)]⟩
    · refine r_iconst dX4_shorten_12 (by decide) ?_
      refine r_iret dX4_shorten_13 rfl ?_
      first | exact ⟨by show _ = some (0, shV M h); unfold shV; rw [if_neg (by omega)], rfl, by unfold shM; rw [if_neg (by omega)]⟩ | exact ⟨by show _ = some (0, shV M h); unfold shV; rw [if_pos (by omega)], rfl, by unfold shM; rw [if_pos (by omega)]⟩
theorem c_told {x y z : Int} {M : Me} {q : Int} (hq : TS (Sf x y z) q) (hx : 15 ≤ q ∧ q ≤ 39) {i u : Int} (hi : 0 ≤ i ∧ i < M q 0) (h0 : M q 0 ≤ 24) (hu : 0 ≤ u ∧ u < 3) : Con kX8_told 0 0 0 [(1, q), (0, i), (0, u)] (Sf x y z) M (Ex (some (0, M (q + 5 + u) i)) (Sf x y z) M) := by
  refine Con.ofV (al := [(1, q), (0, i), (0, u)]) 0 (by decide) (Nat.le_of_ble_eq_true rfl) rfl ?_
  obtain ⟨x0, x1, x2, x3, x4, x5, x6, x7, -⟩ := id hq
  refine r_iload_n dX8_told_0 rfl ?_
  refine r_if_lt (tgt := 32) dX8_told_1 (by decide) (fun h1 => by exfalso; omega) (fun h1 => ?_)
  refine r_iload_n dX8_told_4 rfl ?_
  refine r_aload_n dX8_told_5 rfl (by omega) ?_
  refine r_gi 0 dX8_told_6 flX8_26 x0 (by decide) (by omega) rfl rfl rfl ?_
  refine r_icmp_ge (tgt := 32) dX8_told_9 (by decide) (fun h9 => by exfalso; omega) (fun h9 => ?_)
  refine r_iload_n dX8_told_12 rfl ?_
  refine r_if_lt (tgt := 32) dX8_told_13 (by decide) (fun h13 => by exfalso; omega) (fun h13 => ?_)
  refine r_iload_n dX8_told_16 rfl ?_
  refine r_iconst dX8_told_17 (by decide) ?_
  refine r_icmp_ge (tgt := 32) dX8_told_18 (by decide) (fun h18 => by exfalso; omega) (fun h18 => ?_)
  refine r_aload_n dX8_told_21 rfl (by omega) ?_
  refine r_getr (x := q + 4) dX8_told_22 flX8_23 x0 (by decide) (by omega) rfl rfl ?_
  refine r_iload_n dX8_told_25 rfl ?_
  refine r_aald dX8_told_26 x4 (by decide) (by decide) (by omega) (by omega) (by omega) (by decide) (nr_r (by omega)) ?_
  refine r_iload_n dX8_told_27 rfl ?_
  refine r_iald dX8_told_28 (nr_s (by omega) hq) (by omega) (by omega) (by omega) (by decide) rfl ?_
  refine r_goto (tgt := 33) dX8_told_29 (by decide) ?_
  refine r_iret dX8_told_33 rfl ?_
  exact Ex.rf
theorem c_kindT {x y z : Int} {M : Me} {q : Int} (hq : TS (Sf x y z) q) (hx : 15 ≤ q ∧ q ≤ 39) {i : Int} (hi : 0 ≤ i ∧ i < M q 0) (h0 : M q 0 ≤ 24) : Con kX8_kind 0 0 0 [(1, q), (0, i)] (Sf x y z) M (Ex (some (0, M (q + 3) i)) (Sf x y z) M) := by
  refine Con.ofV (al := [(1, q), (0, i)]) 0 (by decide) (Nat.le_of_ble_eq_true rfl) rfl ?_
  obtain ⟨x0, x1, x2, x3, x4, x5, x6, x7, -⟩ := id hq
  refine r_iload_n dX8_kind_0 rfl ?_
  refine r_if_lt (tgt := 21) dX8_kind_1 (by decide) (fun h1 => by exfalso; omega) (fun h1 => ?_)
  refine r_iload_n dX8_kind_4 rfl ?_
  refine r_aload_n dX8_kind_5 rfl (by omega) ?_
  refine r_gi 0 dX8_kind_6 flX8_26 x0 (by decide) (by omega) rfl rfl rfl ?_
  refine r_icmp_ge (tgt := 21) dX8_kind_9 (by decide) (fun h9 => by exfalso; omega) (fun h9 => ?_)
  refine r_aload_n dX8_kind_12 rfl (by omega) ?_
  refine r_getr (x := q + 3) dX8_kind_13 flX8_18 x0 (by decide) (by omega) rfl rfl ?_
  refine r_iload_n dX8_kind_16 rfl ?_
  refine r_iald dX8_kind_17 x3 (by omega) (by omega) (by omega) (by decide) rfl ?_
  refine r_goto (tgt := 22) dX8_kind_18 (by decide) ?_
  refine r_iret dX8_kind_22 rfl ?_
  exact Ex.rf
abbrev tpO (M : Me) (s c : Int) : Prop := 0 ≤ s ∧ s ≤ 2 ∧ 0 ≤ c ∧ c ≤ 9999 ∧ M 50 2 < 5
def tpV (M : Me) (s c : Int) : Int := if tpO M s c then M 50 2 else -1
def tpM (M : Me) (s c : Int) : Me := if tpO M s c then up (up (up (up M 207 (M 50 2) s) 208 (M 50 2) c) 51 (M 50 2) c) 50 2 (M 50 2 + 1) else M
theorem c_tellPerson {x y z : Int} {M : Me} {s c : Int} (h : CI M) : Con kX6_tellPerson 0 0 0 [(1, 49), (0, s), (0, c)] (Sf x y z) M (Ex (some (0, tpV M s c)) (Sf x y z) (tpM M s c)) := Con.c2v (s_tellPerson h.p) (fun q => q)
abbrev tcO (M : Me) (p y9 d w : Int) : Prop := (0 ≤ p ∧ p < M 50 2) ∧ 0 ≤ y9 ∧ y9 ≤ 99 ∧ 1 ≤ d ∧ d ≤ 9 ∧ -9 ≤ w ∧ w ≤ 9 ∧ M 50 3 < 12
def tcV (M : Me) (p y9 d w : Int) : Int := if tcO M p y9 d w then M 50 3 else -1
def tcN (M : Me) (p y9 d w : Int) : Me := if tcO M p y9 d w then up (up (up (up (up (up (up (up (up M 209 (M 50 3) p) 210 (M 50 3) y9) 211 (M 50 3) d) 212 (M 50 3) w) 213 (M 50 3) 0) 214 (M 50 3) (shl32 1 (M 50 3))) 52 (M 50 3) 0) 53 (M 50 3) d) 50 3 (M 50 3 + 1) else M
theorem c_tellCrease {x y z : Int} {M : Me} {p y9 d w : Int} (h : CI M) : Con kX6_tellCrease 1 0 0 [(1, 49), (0, p), (0, y9), (0, d), (0, w)] (Sf x y z) M (Ex (some (0, tcV M p y9 d w)) (Sf x y z) (tcN M p y9 d w)) := Con.c2v (s_tellCrease h.c) (fun q => q)
def thV (h : Int) : Int := if 0 ≤ h ∧ h ≤ 9 then 1 else 0
def thM (M : Me) (h : Int) : Me := if 0 ≤ h ∧ h ≤ 9 then up M 49 0 h else M
theorem c_tellHeat {x y z : Int} {M : Me} {h : Int} : Con kX6_tellHeat 0 0 0 [(1, 49), (0, h)] (Sf x y z) M (Ex (some (0, thV h)) (Sf x y z) (thM M h)) := Con.c2v s_tellHeat (fun q => q)
theorem f_person {x y z : Int} {M : Me} {s c : Int} (h : CI M) : Con kX10_person 1 0 0 [(1, 0), (0, s), (0, c)] (Sf x y z) M (Ex (some (0, tpV M s c)) (Sf x y z) (tpM M s c)) := by
  refine Con.ofV (al := [(1, 0), (0, s), (0, c)]) 0 (by decide) (Nat.le_of_ble_eq_true rfl) rfl ?_
  refine r_aload_n dX10_person_0 rfl (by decide) ?_
  refine r_getr (x := 49) dX10_person_1 flX10_52 sf0 (by decide) (by decide) rfl rfl ?_
  refine r_iload_n dX10_person_4 rfl ?_
  refine r_iload_n dX10_person_5 rfl ?_
  refine r_cv2 dX10_person_6 clX10_59 sf49 (by decide) (by decide) rfl (by first | decide | omega) (Nat.le_of_ble_eq_true rfl) ((c_tellPerson h)) ⟨Nat.zero_le _, Nat.zero_le _⟩ (fun _ => ?_)
  refine r_iret dX10_person_9 rfl ?_
  exact Ex.rf
theorem f_crease {x y z : Int} {M : Me} {p t d w : Int} (h : CI M) : Con kX10_crease 2 0 0 [(1, 0), (0, p), (0, t), (0, d), (0, w)] (Sf x y z) M (Ex (some (0, tcV M p t d w)) (Sf x y z) (tcN M p t d w)) := by
  refine Con.ofV (al := [(1, 0), (0, p), (0, t), (0, d), (0, w)]) 0 (by decide) (Nat.le_of_ble_eq_true rfl) rfl ?_
  refine r_aload_n dX10_crease_0 rfl (by decide) ?_
  refine r_getr (x := 49) dX10_crease_1 flX10_52 sf0 (by decide) (by decide) rfl rfl ?_
  refine r_iload_n dX10_crease_4 rfl ?_
  refine r_iload_n dX10_crease_5 rfl ?_
  refine r_iload_n dX10_crease_6 rfl ?_
  refine r_iload dX10_crease_7 rfl ?_
  refine r_cv4 dX10_crease_9 clX10_63 sf49 (by decide) (by decide) rfl (by first | decide | omega) (Nat.le_of_ble_eq_true rfl) ((c_tellCrease h)) ⟨Nat.zero_le _, Nat.zero_le _⟩ (fun _ => ?_)
  refine r_iret dX10_crease_12 rfl ?_
  exact Ex.rf
theorem f_tie {x y z : Int} {M : Me} {a b : Int} {n : Nat} (hn : M 50 3 = (n : Int)) (hn12 : n ≤ 12) : Con kX10_tie 2 0 0 [(1, 0), (0, a), (0, b)] (Sf x y z) M (Ex (some (0, ttV M a b)) (Sf x y z) (ttM M n a b)) := by
  refine Con.ofV (al := [(1, 0), (0, a), (0, b)]) 0 (by decide) (Nat.le_of_ble_eq_true rfl) rfl ?_
  have h01 : ttV M a b = 0 ∨ ttV M a b = 1 := by unfold ttV; split <;> omega
  refine r_aload_n dX10_tie_0 rfl (by decide) ?_
  refine r_getr (x := 49) dX10_tie_1 flX10_52 sf0 (by decide) (by decide) rfl rfl ?_
  refine r_iload_n dX10_tie_4 rfl ?_
  refine r_iload_n dX10_tie_5 rfl ?_
  refine r_cv2 dX10_tie_6 clX10_67 sf49 (by decide) (by decide) rfl (by first | decide | omega) (Nat.le_of_ble_eq_true rfl) ((c_tellTie hn hn12)) ⟨Nat.zero_le _, Nat.zero_le _⟩ (fun _ => ?_)
  refine r_zret dX10_tie_9 rfl (by omega) ?_
  exact ⟨rfl, rfl, rfl⟩
theorem f_heat {x y z : Int} {M : Me} {h : Int} : Con kX10_heat 1 0 0 [(1, 0), (0, h)] (Sf x y z) M (Ex (some (0, thV h)) (Sf x y z) (thM M h)) := by
  refine Con.ofV (al := [(1, 0), (0, h)]) 0 (by decide) (Nat.le_of_ble_eq_true rfl) rfl ?_
  have h01 : thV h = 0 ∨ thV h = 1 := by unfold thV; split <;> omega
  refine r_aload_n dX10_heat_0 rfl (by decide) ?_
  refine r_getr (x := 49) dX10_heat_1 flX10_52 sf0 (by decide) (by decide) rfl rfl ?_
  refine r_iload_n dX10_heat_4 rfl ?_
  refine r_cv1 dX10_heat_5 clX10_71 sf49 (by decide) (by decide) rfl (by first | decide | omega) (Nat.le_of_ble_eq_true rfl) (c_tellHeat) ⟨Nat.zero_le _, Nat.zero_le _⟩ (fun _ => ?_)
  refine r_zret dX10_heat_8 rfl (by omega) ?_
  exact ⟨rfl, rfl, rfl⟩
def feV (k : Int) : Int := if k + 20 ≤ 300 then k + 4 + 4 + 4 + 4 + 4 else -1
def feM (M : Me) (v1 v2 v3 v4 v5 k : Int) : Me := if k + 20 ≤ 300 then (fourC (fourC (fourC (fourC (fourC M v1 (k)) v2 (k + 4)) v3 (k + 4 + 4)) v4 (k + 4 + 4 + 4)) v5 (k + 4 + 4 + 4 + 4)) else M
theorem f_feed {x y z : Int} {M : Me} {v1 v2 v3 v4 v5 k : Int} (hk : M 2 0 = k) (hk0 : 0 ≤ k ∧ k ≤ 300) : Con kX10_feed 1 0 0 [(1, 0), (0, v1), (0, v2), (0, v3), (0, v4), (0, v5)] (Sf x y z) M (Ex (some (0, feV k)) (Sf x y z) (feM M v1 v2 v3 v4 v5 k)) := by
  refine Con.ofV (al := [(1, 0), (0, v1), (0, v2), (0, v3), (0, v4), (0, v5)]) 0 (by decide) (Nat.le_of_ble_eq_true rfl) rfl ?_
  refine r_aload_n dX10_feed_0 rfl (by decide) ?_
  refine r_getr (x := 2) dX10_feed_1 flX10_18 sf0 (by decide) (by decide) rfl rfl ?_
  refine r_cv0 dX10_feed_4 clX10_75 sf2 (by decide) (by decide) rfl (by first | decide | omega) (Nat.le_of_ble_eq_true rfl) ((c_hasRoom hk hk0)) ⟨Nat.zero_le _, Nat.zero_le _⟩ (fun _ => ?_)
  refine r_if_ne (tgt := 12) dX10_feed_7 (by decide) (fun h7 => ?_) (fun h7 => ?_)
  · try have h7 := bi_1.mp h7
    refine r_aload_n dX10_feed_12 rfl (by decide) ?_
    refine r_getr (x := 2) dX10_feed_13 flX10_18 sf0 (by decide) (by decide) rfl rfl ?_
    refine r_iload_n dX10_feed_16 rfl ?_
    refine r_cv1 dX10_feed_17 clX10_79 sf2 (by decide) (by decide) rfl (by first | decide | omega) (Nat.le_of_ble_eq_true rfl) ((c_takeT hk (by omega))) ⟨Nat.zero_le _, Nat.zero_le _⟩ (fun _ => ?_)
    refine r_pop dX10_feed_20 (Nat.ne_of_beq_eq_false rfl) ?_
    refine r_aload_n dX10_feed_21 rfl (by decide) ?_
    refine r_getr (x := 2) dX10_feed_22 flX10_18 sf0 (by decide) (by decide) rfl rfl ?_
    refine r_iload_n dX10_feed_25 rfl ?_
    refine r_cv1 dX10_feed_26 clX10_79 sf2 (by decide) (by decide) rfl (by first | decide | omega) (Nat.le_of_ble_eq_true rfl) ((c_takeT fourC_4 (by omega))) ⟨Nat.zero_le _, Nat.zero_le _⟩ (fun _ => ?_)
    refine r_pop dX10_feed_29 (Nat.ne_of_beq_eq_false rfl) ?_
    refine r_aload_n dX10_feed_30 rfl (by decide) ?_
    refine r_getr (x := 2) dX10_feed_31 flX10_18 sf0 (by decide) (by decide) rfl rfl ?_
    refine r_iload_n dX10_feed_34 rfl ?_
    refine r_cv1 dX10_feed_35 clX10_79 sf2 (by decide) (by decide) rfl (by first | decide | omega) (Nat.le_of_ble_eq_true rfl) ((c_takeT fourC_4 (by omega))) ⟨Nat.zero_le _, Nat.zero_le _⟩ (fun _ => ?_)
    refine r_pop dX10_feed_38 (Nat.ne_of_beq_eq_false rfl) ?_
    refine r_aload_n dX10_feed_39 rfl (by decide) ?_
    refine r_getr (x := 2) dX10_feed_40 flX10_18 sf0 (by decide) (by decide) rfl rfl ?_
    refine r_iload dX10_feed_43 rfl ?_
    refine r_cv1 dX10_feed_45 clX10_79 sf2 (by decide) (by decide) rfl (by first | decide | omega) (Nat.le_of_ble_eq_true rfl) ((c_takeT fourC_4 (by omega))) ⟨Nat.zero_le _, Nat.zero_le _⟩ (fun _ => ?_)
    refine r_pop dX10_feed_48 (Nat.ne_of_beq_eq_false rfl) ?_
    refine r_aload_n dX10_feed_49 rfl (by decide) ?_
    refine r_getr (x := 2) dX10_feed_50 flX10_18 sf0 (by decide) (by decide) rfl rfl ?_
    refine r_iload dX10_feed_53 rfl ?_
    refine r_cv1 dX10_feed_55 clX10_79 sf2 (by decide) (by decide) rfl (by first | decide | omega) (Nat.le_of_ble_eq_true rfl) ((c_takeT fourC_4 (by omega))) ⟨Nat.zero_le _, Nat.zero_le _⟩ (fun _ => ?_)
    refine r_iret dX10_feed_58 rfl ?_
    first | exact ⟨by unfold feV; rw [if_neg (by first | assumption | omega)], rfl, by unfold feM; rw [if_neg (by first | assumption | omega)]⟩ | exact ⟨by unfold feV; rw [if_pos (by first | assumption | omega)], rfl, by unfold feM; rw [if_pos (by first | assumption | omega)]⟩
  · try have h7 := bi_0.mp h7
    refine r_iconst dX10_feed_10 (by decide) ?_
    refine r_iret dX10_feed_11 rfl ?_
    first | exact ⟨by unfold feV; rw [if_neg (by first | assumption | omega)], rfl, by unfold feM; rw [if_neg (by first | assumption | omega)]⟩ | exact ⟨by unfold feV; rw [if_pos (by first | assumption | omega)], rfl, by unfold feM; rw [if_pos (by first | assumption | omega)]⟩
theorem f_end {x y z : Int} {M : Me} {h : Int} : Con kX10_end 1 0 0 [(1, 0), (0, h)] (Sf x y z) M (Ex (some (0, shV M h)) (Sf x y z) (shM M h)) := by
  refine Con.ofV (al := [(1, 0), (0, h)]) 0 (by decide) (Nat.le_of_ble_eq_true rfl) rfl ?_
  refine r_aload_n dX10_end_0 rfl (by decide) ?_
  refine r_getr (x := 2) dX10_end_1 flX10_18 sf0 (by decide) (by decide) rfl rfl ?_
  refine r_iload_n dX10_end_4 rfl ?_
  refine r_cv1 dX10_end_5 clX10_83 sf2 (by decide) (by decide) rfl (by first | decide | omega) (Nat.le_of_ble_eq_true rfl) (c_shorten) ⟨Nat.zero_le _, Nat.zero_le _⟩ (fun _ => ?_)
  refine r_iret dX10_end_8 rfl ?_
  exact Ex.rf
def faV (M : Me) (u : Int) : Int := if u = 0 then M 2 1 else if u = 1 then M 2 2 else -1
def byV (M : Me) (t : Int) : Int := if -1 ≤ t ∧ t < M 49 1 then 1 else 0
def byM (M : Me) (t : Int) : Me := if -1 ≤ t ∧ t < M 49 1 then up M 49 2 t else M
theorem f_fault {x y z : Int} {M : Me} {u : Int} : Con kX10_fault 0 0 0 [(1, 0), (0, u)] (Sf x y z) M (Ex (some (0, faV M u)) (Sf x y z) M) := by
  refine Con.ofV (al := [(1, 0), (0, u)]) 0 (by decide) (Nat.le_of_ble_eq_true rfl) rfl ?_
  refine r_iload_n dX10_fault_0 rfl ?_
  refine r_if_ne (tgt := 12) dX10_fault_1 (by decide) (fun h1 => ?_) (fun h1 => ?_)
  · try have h1 := bi_1.mp h1
    refine r_iload_n dX10_fault_12 rfl ?_
    refine r_iconst dX10_fault_13 (by decide) ?_
    refine r_icmp_ne (tgt := 27) dX10_fault_14 (by decide) (fun h14 => ?_) (fun h14 => ?_)
    · refine r_iconst dX10_fault_27 (by decide) ?_
      refine r_iret dX10_fault_28 rfl ?_
      first | exact ⟨by unfold faV; rw [if_pos (by omega)], rfl, rfl⟩ | exact ⟨by unfold faV; rw [if_neg (by omega), if_pos (by omega)], rfl, rfl⟩ | exact ⟨by unfold faV; rw [if_neg (by omega), if_neg (by omega)], rfl, rfl⟩
    · refine r_aload_n dX10_fault_17 rfl (by decide) ?_
      refine r_getr (x := 2) dX10_fault_18 flX10_18 sf0 (by decide) (by decide) rfl rfl ?_
      refine r_gi 2 dX10_fault_21 flX10_96 sf2 (by decide) (by decide) rfl rfl rfl ?_
      refine r_goto (tgt := 28) dX10_fault_24 (by decide) ?_
      refine r_iret dX10_fault_28 rfl ?_
      first | exact ⟨by unfold faV; rw [if_pos (by omega)], rfl, rfl⟩ | exact ⟨by unfold faV; rw [if_neg (by omega), if_pos (by omega)], rfl, rfl⟩ | exact ⟨by unfold faV; rw [if_neg (by omega), if_neg (by omega)], rfl, rfl⟩
  · try have h1 := bi_0.mp h1
    refine r_aload_n dX10_fault_4 rfl (by decide) ?_
    refine r_getr (x := 2) dX10_fault_5 flX10_18 sf0 (by decide) (by decide) rfl rfl ?_
    refine r_gi 1 dX10_fault_8 flX10_93 sf2 (by decide) (by decide) rfl rfl rfl ?_
    refine r_iret dX10_fault_11 rfl ?_
    first | exact ⟨by unfold faV; rw [if_pos (by omega)], rfl, rfl⟩ | exact ⟨by unfold faV; rw [if_neg (by omega), if_pos (by omega)], rfl, rfl⟩ | exact ⟨by unfold faV; rw [if_neg (by omega), if_neg (by omega)], rfl, rfl⟩
theorem f_by {x y z : Int} {M : Me} {t : Int} : Con kX10_by 0 0 0 [(1, 0), (0, t)] (Sf x y z) M (Ex (some (0, byV M t)) (Sf x y z) (byM M t)) := by
  refine Con.ofV (al := [(1, 0), (0, t)]) 0 (by decide) (Nat.le_of_ble_eq_true rfl) rfl ?_
  refine r_iload_n dX10_by_0 rfl ?_
  refine r_iconst dX10_by_1 (by decide) ?_
  refine r_icmp_lt (tgt := 16) dX10_by_2 (by decide) (fun h2 => ?_) (fun h2 => ?_)
  · refine r_iconst dX10_by_16 (by decide) ?_
    refine r_zret dX10_by_17 rfl (by omega) ?_
    first | exact ⟨by unfold byV; rw [if_neg (by omega)], rfl, by unfold byM; rw [if_neg (by omega)]⟩ | exact ⟨by unfold byV; rw [if_pos (by omega)], rfl, by unfold byM; rw [if_pos (by omega)]⟩
  · refine r_iload_n dX10_by_5 rfl ?_
    refine r_aload_n dX10_by_6 rfl (by decide) ?_
    refine r_getr (x := 49) dX10_by_7 flX10_52 sf0 (by decide) (by decide) rfl rfl ?_
    refine r_gi 1 dX10_by_10 flX10_86 sf49 (by decide) (by decide) rfl rfl rfl ?_
    refine r_icmp_lt (tgt := 18) dX10_by_13 (by decide) (fun h13 => ?_) (fun h13 => ?_)
    · refine r_aload_n dX10_by_18 rfl (by decide) ?_
      refine r_getr (x := 49) dX10_by_19 flX10_52 sf0 (by decide) (by decide) rfl rfl ?_
      refine r_iload_n dX10_by_22 rfl ?_
      refine r_pi 2 dX10_by_23 fpX10_99 sf49 (by decide) (by decide) rfl rfl ?_
      refine r_iconst dX10_by_26 (by decide) ?_
      refine r_zret dX10_by_27 rfl (by omega) ?_
      first | exact ⟨by unfold byV; rw [if_neg (by omega)], rfl, by unfold byM; rw [if_neg (by omega)]⟩ | exact ⟨by unfold byV; rw [if_pos (by omega)], rfl, by unfold byM; rw [if_pos (by omega)]⟩
    · refine r_iconst dX10_by_16 (by decide) ?_
      refine r_zret dX10_by_17 rfl (by omega) ?_
      first | exact ⟨by unfold byV; rw [if_neg (by omega)], rfl, by unfold byM; rw [if_neg (by omega)]⟩ | exact ⟨by unfold byV; rw [if_pos (by omega)], rfl, by unfold byM; rw [if_pos (by omega)]⟩
/-- the reading of a law's text into the next place -/
def tdR (M : Me) : RV := readC M (15 + 8 * M 49 1) (M 2 0).toNat
def tdV (M : Me) : Int := if 4 ≤ M 49 1 ∨ (tdR M).1 = 0 then -1 else M 49 1
def tdM (M : Me) : Me := if 4 ≤ M 49 1 then M else if (tdR M).1 = 0 then shM (tdR M).2 0 else up (shM (tdR M).2 0) 49 1 (M 49 1 + 1)
theorem shM_o {M : Me} {h a j : Int} (q : ¬ (a = 2 ∧ j = 0)) : shM M h a j = M a j := by
  unfold shM
  split
  · exact up_ne q
  · rfl
theorem tdR_o {M : Me} (ht : 0 ≤ M 49 1 ∧ M 49 1 < 4) {a j : Int} (h : 47 ≤ a) : (tdR M).2 a j = M a j := FX.read _ _ (by omega) (by omega)
theorem f_text {x y z : Int} {M : Me} (h : CI M) (h20 : 0 ≤ M 2 0 ∧ M 2 0 ≤ 300) : Con kX10_text 94 0 0 [(1, 0)] (Sf x y z) M (Ex (some (0, tdV M)) (Sf (if 4 ≤ M 49 1 then x else 15 + 8 * M 49 1) y z) (tdM M)) := by
  refine Con.ofV (al := [(1, 0), (9, 0)]) 1 (by decide) (Nat.le_of_ble_eq_true rfl) rfl ?_
  have ht := h.t
  have hz : (((M 2 0).toNat : Nat) : Int) = M 2 0 := Int.toNat_of_nonneg h20.1
  have hr : M 49 1 < 4 → (shM (tdR M).2 0) 49 1 = M 49 1 := fun q => (shM_o (by omega)).trans (tdR_o (by omega) (by omega))
  refine r_aload_n dX10_text_0 rfl (by decide) ?_
  refine r_getr (x := 49) dX10_text_1 flX10_52 sf0 (by decide) (by decide) rfl rfl ?_
  refine r_gi 1 dX10_text_4 flX10_86 sf49 (by decide) (by decide) rfl rfl rfl ?_
  refine r_aload_n dX10_text_7 rfl (by decide) ?_
  refine r_getr (x := 1) dX10_text_8 flX10_11 sf0 (by decide) (by decide) rfl rfl ?_
  refine r_alen dX10_text_11 sf1 (by decide) (by decide) (by decide) (by first | decide | omega) rfl ?_
  refine r_icmp_lt (tgt := 17) dX10_text_12 (by decide) (fun h12 => ?_) (fun h12 => ?_)
  · refine r_aload_n dX10_text_17 rfl (by decide) ?_
    refine r_getr (x := 2) dX10_text_18 flX10_18 sf0 (by decide) (by decide) rfl rfl ?_
    refine r_aload_n dX10_text_21 rfl (by decide) ?_
    refine r_getr (x := 1) dX10_text_22 flX10_11 sf0 (by decide) (by decide) rfl rfl ?_
    refine r_aload_n dX10_text_25 rfl (by decide) ?_
    refine r_getr (x := 49) dX10_text_26 flX10_52 sf0 (by decide) (by decide) rfl rfl ?_
    refine r_gi 1 dX10_text_29 flX10_86 sf49 (by decide) (by decide) rfl rfl rfl ?_
    refine r_aald dX10_text_32 sf1 (by decide) (by decide) (by decide) (by omega) (by omega) (by decide) (tq_r (by omega)) ?_
    refine r_cv1 dX10_text_33 clX10_89 sf2 (by decide) (by decide) rfl (by first | decide | omega) (Nat.le_of_ble_eq_true rfl) ((c_read (n := (M 2 0).toNat) (ts_q (by omega)) (by omega) hz.symm (by omega))) ⟨Nat.zero_le _, Nat.zero_le _⟩ (fun _ => ?_)
    refine r_istore_n dX10_text_36 rfl (by decide) st1 ?_
    refine r_aload_n dX10_text_37 rfl (by decide) ?_
    refine r_getr (x := 2) dX10_text_38 flX10_18 sf0 (by decide) (by decide) rfl rfl ?_
    refine r_iconst dX10_text_41 (by decide) ?_
    refine r_cv1 dX10_text_42 clX10_83 sf2 (by decide) (by decide) rfl (by first | decide | omega) (Nat.le_of_ble_eq_true rfl) (c_shorten) ⟨Nat.zero_le _, Nat.zero_le _⟩ (fun _ => ?_)
    refine r_pop dX10_text_45 (Nat.ne_of_beq_eq_false rfl) ?_
    refine r_iload_n dX10_text_46 rfl ?_
    refine r_if_ne (tgt := 52) dX10_text_47 (by decide) (fun h47 => ?_) (fun h47 => ?_)
    · refine r_aload_n dX10_text_52 rfl (by decide) ?_
      refine r_getr (x := 49) dX10_text_53 flX10_52 sf0 (by decide) (by decide) rfl rfl ?_
      refine r_dup dX10_text_56 (Nat.ne_of_beq_eq_false rfl) ?_
      refine r_gi 1 dX10_text_57 flX10_86 sf49 (by decide) (by decide) rfl rfl (hr (by omega)) ?_
      refine r_iconst dX10_text_60 (by decide) ?_
      refine r_iadd dX10_text_61 (w32_id (by omega)) ?_
      refine r_pi 1 dX10_text_62 fpX10_86 sf49 (by decide) (by decide) rfl rfl ?_
      refine r_aload_n dX10_text_65 rfl (by decide) ?_
      refine r_getr (x := 49) dX10_text_66 flX10_52 sf0 (by decide) (by decide) rfl rfl ?_
      refine r_gi 1 dX10_text_69 flX10_86 sf49 (by decide) (by decide) rfl rfl (up_eq ⟨rfl, rfl⟩) ?_
      refine r_iconst dX10_text_72 (by decide) ?_
      refine r_isub dX10_text_73 (w32_id (by omega)) ?_
      refine r_iret dX10_text_74 rfl ?_
      first | (exfalso; omega) | exact ⟨by unfold tdV; rw [if_pos (Or.inl (by omega))], by rw [if_pos (by omega)], by unfold tdM; rw [if_pos (by omega)]⟩ | exact ⟨by unfold tdV; rw [if_pos (Or.inr (by assumption))], by rw [if_neg (by omega)], by unfold tdM; rw [if_neg (by omega), if_pos (by assumption)]; rfl⟩ | exact ⟨by unfold tdV; rw [if_neg (fun q => by rcases q with q | q; omega; exact absurd q (by assumption))]; congr 2; omega, by rw [if_neg (by omega)], by unfold tdM; rw [if_neg (by omega), if_neg (by assumption)]; rfl⟩
    · refine r_iconst dX10_text_50 (by decide) ?_
      refine r_iret dX10_text_51 rfl ?_
      first | (exfalso; omega) | exact ⟨by unfold tdV; rw [if_pos (Or.inl (by omega))], by rw [if_pos (by omega)], by unfold tdM; rw [if_pos (by omega)]⟩ | exact ⟨by unfold tdV; rw [if_pos (Or.inr (by assumption))], by rw [if_neg (by omega)], by unfold tdM; rw [if_neg (by omega), if_pos (by assumption)]; rfl⟩ | exact ⟨by unfold tdV; rw [if_neg (fun q => by rcases q with q | q; omega; exact absurd q (by assumption))]; congr 2; omega, by rw [if_neg (by omega)], by unfold tdM; rw [if_neg (by omega), if_neg (by assumption)]; rfl⟩
  · refine r_iconst dX10_text_15 (by decide) ?_
    refine r_iret dX10_text_16 rfl ?_
    first | (exfalso; omega) | exact ⟨by unfold tdV; rw [if_pos (Or.inl (by omega))], by rw [if_pos (by omega)], by unfold tdM; rw [if_pos (by omega)]⟩ | exact ⟨by unfold tdV; rw [if_pos (Or.inr (by assumption))], by rw [if_neg (by omega)], by unfold tdM; rw [if_neg (by omega), if_pos (by assumption)]; rfl⟩ | exact ⟨by unfold tdV; rw [if_neg (fun q => by rcases q with q | q; omega; exact absurd q (by assumption))]; congr 2; omega, by rw [if_neg (by omega)], by unfold tdM; rw [if_neg (by omega), if_neg (by assumption)]; rfl⟩
