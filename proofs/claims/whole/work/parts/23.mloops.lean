theorem V.cm {k : MI} {c1 c2 dd : Nat} {xs : Option (List Int)} {Q : Option AV → Sh → Me → Prop} {pc : Nat} {al al2 st : List AV} {S : Sh} {M M2 : Me} {n1 n2 : Nat} (h : al = al2) (hM : M = M2) (k9 : V k c1 c2 dd xs Q pc al2 st S M2 n1 n2) : V k c1 c2 dd xs Q pc al st S M n1 n2 := by subst h; subst hM; exact k9
def isum (p : Int → Prop) [DecidablePred p] (f : Int → Int) : Nat → Int
  | 0 => 0
  | n + 1 => isum p f n + (if p n then f n else 0)
theorem isum_t {p : Int → Prop} [DecidablePred p] {f : Int → Int} {i : Nat} (h : p i) : isum p f (i + 1) = isum p f i + f i := by
  show _ + (if p i then _ else _) = _
  rw [if_pos h]
theorem isum_f {p : Int → Prop} [DecidablePred p] {f : Int → Int} {i : Nat} (h : ¬ p i) : isum p f (i + 1) = isum p f i + 0 := by
  show _ + (if p i then _ else _) = _
  rw [if_neg h]
theorem isum_b {p : Int → Prop} [DecidablePred p] {f : Int → Int} {b : Int} {n : Nat} (h0 : 0 ≤ b) (h : ∀ i : Nat, i < n → -b ≤ f i ∧ f i ≤ b) : -(n * b) ≤ isum p f n ∧ isum p f n ≤ n * b := by
  induction n with
  | zero => simp [isum]
  | succ n ih =>
    have h1 := ih (fun i hi => h i (by omega))
    have h2 := h n (by omega)
    have e : ((n + 1 : Nat) : Int) * b = n * b + b := by rw [Int.natCast_add, Int.add_mul]; simp
    rw [e]
    unfold isum
    split <;> omega
theorem isum_c {p q : Int → Prop} [DecidablePred p] [DecidablePred q] {f g : Int → Int} {n : Nat} (h : ∀ i : Nat, i < n → (p i ↔ q i)) (hf : ∀ i : Nat, i < n → p i → f i = g i) : isum p f n = isum q g n := by
  induction n with
  | zero => rfl
  | succ n ih =>
    show _ + (if p n then _ else _) = _ + (if q n then _ else _)
    rw [ih (fun i hi => h i (by omega)) (fun i hi => hf i (by omega))]
    by_cases hp : p n
    · rw [if_pos hp, if_pos ((h n (by omega)).mp hp), hf n (by omega) hp]
    · rw [if_neg hp, if_neg (fun q => hp ((h n (by omega)).mpr q))]
def fl1 (p : Int → Int → Prop) [∀ i s, Decidable (p i s)] (v : Int → Int → Int) (s0 : Int) : Nat → Int
  | 0 => s0
  | n + 1 => if p n (fl1 p v s0 n) then v n (fl1 p v s0 n) else fl1 p v s0 n
theorem fl1_t {p : Int → Int → Prop} [∀ i s, Decidable (p i s)] {v : Int → Int → Int} {s0 : Int} {i : Nat} (h : p i (fl1 p v s0 i)) : fl1 p v s0 (i + 1) = v i (fl1 p v s0 i) := if_pos h
theorem fl1_f {p : Int → Int → Prop} [∀ i s, Decidable (p i s)] {v : Int → Int → Int} {s0 : Int} {i : Nat} (h : ¬ p i (fl1 p v s0 i)) : fl1 p v s0 (i + 1) = fl1 p v s0 i := if_neg h
theorem fl1_lt {p : Int → Int → Prop} [∀ i s, Decidable (p i s)] : ∀ n : Nat, -1 ≤ fl1 p (fun i _ => i) (-1) n ∧ fl1 p (fun i _ => i) (-1) n < n := by
  intro n
  induction n with
  | zero => exact (show -1 ≤ (-1 : Int) ∧ (-1 : Int) < ((0 : Nat) : Int) by omega)
  | succ n ih => unfold fl1; split <;> omega
theorem l_worthOf {x y z : Int} {M : Me} {s : Int} {n : Nat} (hn : M 430 14 = (n : Int)) (hn12 : n ≤ 12) (hw : ∀ c : Int, 0 ≤ c → c < n → -9 ≤ M 430 (15 + 7 * c + 5) ∧ M 430 (15 + 7 * c + 5) ≤ 9) : ∀ (m i : Nat), m + i = n → V kX11_worthOf 0 0 1 none (Ex (some (0, isum (fun c : Int => and32 (shr32 s c) 1 = 1) (fun c : Int => M 430 (15 + 7 * c + 5)) n)) (Sf x y z) M) 4 [(1, 429), (0, s), (0, isum (fun c : Int => and32 (shr32 s c) 1 = 1) (fun c : Int => M 430 (15 + 7 * c + 5)) i), (0, (i : Int))] [] (Sf x y z) M 0 0 := by
  intro m
  induction m with
  | zero =>
    intro i hi
    obtain rfl : i = n := by omega
    refine r_iload_n dX11_worthOf_4 rfl ?_
    refine r_aload_n dX11_worthOf_5 rfl (by decide) ?_
    refine r_getr (x := 430) dX11_worthOf_6 flX11_7 sf429 (by decide) (by decide) rfl rfl ?_
    refine r_bipush dX11_worthOf_9 (by decide) (by decide) ?_
    refine r_iald dX11_worthOf_11 sf430 (by decide) (by omega) (by omega) (by decide) hn ?_
    refine r_icmp_ge (tgt := 42) dX11_worthOf_12 (by decide) (fun h12 => ?_) (fun h12 => by exfalso; omega)
    refine r_iload_n dX11_worthOf_42 rfl ?_
    refine r_iret dX11_worthOf_43 rfl ?_
    exact Ex.rf
  | succ m ih =>
    intro i hi
    have hb := isum_b (p := (fun c : Int => and32 (shr32 s c) 1 = 1)) (f := (fun c : Int => M 430 (15 + 7 * c + 5))) (b := 9) (n := i) (by decide) (fun j hj => by have := hw j (by omega) (by omega); (try dsimp only); omega)
    have hb2 := hw i (by omega) (by omega)
    refine r_iload_n dX11_worthOf_4 rfl ?_
    refine r_aload_n dX11_worthOf_5 rfl (by decide) ?_
    refine r_getr (x := 430) dX11_worthOf_6 flX11_7 sf429 (by decide) (by decide) rfl rfl ?_
    refine r_bipush dX11_worthOf_9 (by decide) (by decide) ?_
    refine r_iald dX11_worthOf_11 sf430 (by decide) (by omega) (by omega) (by decide) hn ?_
    refine r_icmp_ge (tgt := 42) dX11_worthOf_12 (by decide) (fun h12 => by exfalso; omega) (fun h12 => ?_)
    refine r_iload_n dX11_worthOf_15 rfl ?_
    refine r_iload_n dX11_worthOf_16 rfl ?_
    refine r_iload_n dX11_worthOf_17 rfl ?_
    refine r_cs2 dX11_worthOf_18 clX11_84 (by first | decide | omega) (Nat.le_of_ble_eq_true rfl) (c_has) ⟨Nat.zero_le _, Nat.zero_le _⟩ (fun _ => ?_)
    refine r_if_eq (tgt := 33) dX11_worthOf_21 (by decide) (fun h21 => ?_) (fun h21 => ?_)
    · try have h21 := bi_0.mp h21
      refine r_iconst dX11_worthOf_33 (by decide) ?_
      refine r_iadd dX11_worthOf_34 (w32_id (by omega)) ?_
      refine r_istore_n dX11_worthOf_35 rfl (by decide) st2 ?_
      refine r_iinc dX11_worthOf_36 rfl rfl (by decide) (w32_id (by omega)) st3 ?_
      refine r_goto (tgt := 4) dX11_worthOf_39 (by decide) ?_
      first | exact V.al (by rw [isum_t (p := (fun c : Int => and32 (shr32 s c) 1 = 1)) (f := (fun c : Int => M 430 (15 + 7 * c + 5))) (by first | assumption | omega)]; rfl) (ih (i + 1) (by omega)) | exact V.al (by rw [isum_f (p := (fun c : Int => and32 (shr32 s c) 1 = 1)) (f := (fun c : Int => M 430 (15 + 7 * c + 5))) (by first | assumption | omega)]; rfl) (ih (i + 1) (by omega))
    · try have h21 := bi_1.mp h21
      refine r_aload_n dX11_worthOf_24 rfl (by decide) ?_
      refine r_iload_n dX11_worthOf_25 rfl ?_
      refine r_iconst dX11_worthOf_26 (by decide) ?_
      refine r_cv2 dX11_worthOf_27 clX11_66 sf429 (by decide) (by decide) rfl (by first | decide | omega) (Nat.le_of_ble_eq_true rfl) (c_get (by omega) (by decide)) ⟨Nat.zero_le _, Nat.zero_le _⟩ (fun _ => ?_)
      refine r_goto (tgt := 34) dX11_worthOf_30 (by decide) ?_
      refine r_iadd dX11_worthOf_34 (w32_id (by omega)) ?_
      refine r_istore_n dX11_worthOf_35 rfl (by decide) st2 ?_
      refine r_iinc dX11_worthOf_36 rfl rfl (by decide) (w32_id (by omega)) st3 ?_
      refine r_goto (tgt := 4) dX11_worthOf_39 (by decide) ?_
      first | exact V.al (by rw [isum_t (p := (fun c : Int => and32 (shr32 s c) 1 = 1)) (f := (fun c : Int => M 430 (15 + 7 * c + 5))) (by first | assumption | omega)]; rfl) (ih (i + 1) (by omega)) | exact V.al (by rw [isum_f (p := (fun c : Int => and32 (shr32 s c) 1 = 1)) (f := (fun c : Int => M 430 (15 + 7 * c + 5))) (by first | assumption | omega)]; rfl) (ih (i + 1) (by omega))
theorem m_worthOf {x y z : Int} {M : Me} {s : Int} {n : Nat} (hn : M 430 14 = (n : Int)) (hn12 : n ≤ 12) (hw : ∀ c : Int, 0 ≤ c → c < n → -9 ≤ M 430 (15 + 7 * c + 5) ∧ M 430 (15 + 7 * c + 5) ≤ 9) : Con kX11_worthOf 1 0 0 [(1, 429), (0, s)] (Sf x y z) M (Ex (some (0, isum (fun c : Int => and32 (shr32 s c) 1 = 1) (fun c : Int => M 430 (15 + 7 * c + 5)) n)) (Sf x y z) M) := by
  refine Con.ofV (al := [(1, 429), (0, s), (9, 0), (9, 0)]) 2 (by decide) (Nat.le_of_ble_eq_true rfl) rfl ?_
  refine r_iconst dX11_worthOf_0 (by decide) ?_
  refine r_istore_n dX11_worthOf_1 rfl (by decide) st2 ?_
  refine r_iconst dX11_worthOf_2 (by decide) ?_
  refine r_istore_n dX11_worthOf_3 rfl (by decide) st3 ?_
  exact l_worthOf hn hn12 hw n 0 (by omega)
theorem l_befell {x y z : Int} {M : Me} {c u : Int} {n : Nat} (hn : M 430 12 = (n : Int)) (hn30 : n ≤ 30) (he : ∀ i : Int, 0 ≤ i → i < 30 → 0 ≤ M 430 (2112 + i) ∧ M 430 (2112 + i) < 1000000) : ∀ (m i : Nat), m + i = n → V kX11_befell 0 0 1 none (Ex (some (0, isum (fun i : Int => ent0 (M 430 (2112 + i)) 2 = u ∧ (c = -1 ∨ ent0 (M 430 (2112 + i)) 1 = c)) (fun _ => 1) n)) (Sf x y z) M) 30 [(1, 429), (0, c), (0, u), (0, isum (fun i : Int => ent0 (M 430 (2112 + i)) 2 = u ∧ (c = -1 ∨ ent0 (M 430 (2112 + i)) 1 = c)) (fun _ => 1) i), (0, (i : Int))] [] (Sf x y z) M 0 0 := by
  intro m
  induction m with
  | zero =>
    intro i hi
    obtain rfl : i = n := by omega
    refine r_iload dX11_befell_30 rfl ?_
    refine r_aload_n dX11_befell_32 rfl (by decide) ?_
    refine r_getr (x := 430) dX11_befell_33 flX11_7 sf429 (by decide) (by decide) rfl rfl ?_
    refine r_bipush dX11_befell_36 (by decide) (by decide) ?_
    refine r_iald dX11_befell_38 sf430 (by decide) (by omega) (by omega) (by decide) hn ?_
    refine r_icmp_ge (tgt := 83) dX11_befell_39 (by decide) (fun h39 => ?_) (fun h39 => by exfalso; omega)
    refine r_iload_n dX11_befell_83 rfl ?_
    refine r_iret dX11_befell_84 rfl ?_
    exact Ex.rf
  | succ m ih =>
    intro i hi
    have hb := isum_b (p := (fun i : Int => ent0 (M 430 (2112 + i)) 2 = u ∧ (c = -1 ∨ ent0 (M 430 (2112 + i)) 1 = c))) (f := fun _ => 1) (b := 1) (n := i) (by decide) (fun j hj => by (try dsimp only); omega)
    refine r_iload dX11_befell_30 rfl ?_
    refine r_aload_n dX11_befell_32 rfl (by decide) ?_
    refine r_getr (x := 430) dX11_befell_33 flX11_7 sf429 (by decide) (by decide) rfl rfl ?_
    refine r_bipush dX11_befell_36 (by decide) (by decide) ?_
    refine r_iald dX11_befell_38 sf430 (by decide) (by omega) (by omega) (by decide) hn ?_
    refine r_icmp_ge (tgt := 83) dX11_befell_39 (by decide) (fun h39 => by exfalso; omega) (fun h39 => ?_)
    refine r_iload_n dX11_befell_42 rfl ?_
    refine r_aload_n dX11_befell_43 rfl (by decide) ?_
    refine r_iload dX11_befell_44 rfl ?_
    refine r_iconst dX11_befell_46 (by decide) ?_
    refine r_cv2 dX11_befell_47 clX11_396 sf429 (by decide) (by decide) rfl (by first | decide | omega) (Nat.le_of_ble_eq_true rfl) (m_entry (by omega) (he _ (by omega) (by omega))) ⟨Nat.zero_le _, Nat.zero_le _⟩ (fun _ => ?_)
    refine r_iload_n dX11_befell_50 rfl ?_
    refine r_icmp_ne (tgt := 74) dX11_befell_51 (by decide) (fun h51 => ?_) (fun h51 => ?_)
    · refine r_iconst dX11_befell_74 (by decide) ?_
      refine r_iadd dX11_befell_75 (w32_id (by omega)) ?_
      refine r_istore_n dX11_befell_76 rfl (by decide) st3 ?_
      refine r_iinc dX11_befell_77 rfl rfl (by decide) (w32_id (by omega)) st4 ?_
      refine r_goto (tgt := 30) dX11_befell_80 (by decide) ?_
      first | exact V.al (by rw [isum_t (p := (fun i : Int => ent0 (M 430 (2112 + i)) 2 = u ∧ (c = -1 ∨ ent0 (M 430 (2112 + i)) 1 = c))) (f := fun _ => 1) (by first | assumption | omega)]; rfl) (ih (i + 1) (by omega)) | exact V.al (by rw [isum_f (p := (fun i : Int => ent0 (M 430 (2112 + i)) 2 = u ∧ (c = -1 ∨ ent0 (M 430 (2112 + i)) 1 = c))) (f := fun _ => 1) (by first | assumption | omega)]; rfl) (ih (i + 1) (by omega))
    · refine r_iload_n dX11_befell_54 rfl ?_
      refine r_iconst dX11_befell_55 (by decide) ?_
      refine r_icmp_eq (tgt := 70) dX11_befell_56 (by decide) (fun h56 => ?_) (fun h56 => ?_)
      · refine r_iconst dX11_befell_70 (by decide) ?_
        refine r_goto (tgt := 75) dX11_befell_71 (by decide) ?_
        refine r_iadd dX11_befell_75 (w32_id (by omega)) ?_
        refine r_istore_n dX11_befell_76 rfl (by decide) st3 ?_
        refine r_iinc dX11_befell_77 rfl rfl (by decide) (w32_id (by omega)) st4 ?_
        refine r_goto (tgt := 30) dX11_befell_80 (by decide) ?_
        first | exact V.al (by rw [isum_t (p := (fun i : Int => ent0 (M 430 (2112 + i)) 2 = u ∧ (c = -1 ∨ ent0 (M 430 (2112 + i)) 1 = c))) (f := fun _ => 1) (by first | assumption | omega)]; rfl) (ih (i + 1) (by omega)) | exact V.al (by rw [isum_f (p := (fun i : Int => ent0 (M 430 (2112 + i)) 2 = u ∧ (c = -1 ∨ ent0 (M 430 (2112 + i)) 1 = c))) (f := fun _ => 1) (by first | assumption | omega)]; rfl) (ih (i + 1) (by omega))
      · refine r_aload_n dX11_befell_59 rfl (by decide) ?_
        refine r_iload dX11_befell_60 rfl ?_
        refine r_iconst dX11_befell_62 (by decide) ?_
        refine r_cv2 dX11_befell_63 clX11_396 sf429 (by decide) (by decide) rfl (by first | decide | omega) (Nat.le_of_ble_eq_true rfl) (m_entry (by omega) (he _ (by omega) (by omega))) ⟨Nat.zero_le _, Nat.zero_le _⟩ (fun _ => ?_)
        refine r_iload_n dX11_befell_66 rfl ?_
        refine r_icmp_ne (tgt := 74) dX11_befell_67 (by decide) (fun h67 => ?_) (fun h67 => ?_)
        · refine r_iconst dX11_befell_74 (by decide) ?_
          refine r_iadd dX11_befell_75 (w32_id (by omega)) ?_
          refine r_istore_n dX11_befell_76 rfl (by decide) st3 ?_
          refine r_iinc dX11_befell_77 rfl rfl (by decide) (w32_id (by omega)) st4 ?_
          refine r_goto (tgt := 30) dX11_befell_80 (by decide) ?_
          first | exact V.al (by rw [isum_t (p := (fun i : Int => ent0 (M 430 (2112 + i)) 2 = u ∧ (c = -1 ∨ ent0 (M 430 (2112 + i)) 1 = c))) (f := fun _ => 1) (by first | assumption | omega)]; rfl) (ih (i + 1) (by omega)) | exact V.al (by rw [isum_f (p := (fun i : Int => ent0 (M 430 (2112 + i)) 2 = u ∧ (c = -1 ∨ ent0 (M 430 (2112 + i)) 1 = c))) (f := fun _ => 1) (by first | assumption | omega)]; rfl) (ih (i + 1) (by omega))
        · refine r_iconst dX11_befell_70 (by decide) ?_
          refine r_goto (tgt := 75) dX11_befell_71 (by decide) ?_
          refine r_iadd dX11_befell_75 (w32_id (by omega)) ?_
          refine r_istore_n dX11_befell_76 rfl (by decide) st3 ?_
          refine r_iinc dX11_befell_77 rfl rfl (by decide) (w32_id (by omega)) st4 ?_
          refine r_goto (tgt := 30) dX11_befell_80 (by decide) ?_
          first | exact V.al (by rw [isum_t (p := (fun i : Int => ent0 (M 430 (2112 + i)) 2 = u ∧ (c = -1 ∨ ent0 (M 430 (2112 + i)) 1 = c))) (f := fun _ => 1) (by first | assumption | omega)]; rfl) (ih (i + 1) (by omega)) | exact V.al (by rw [isum_f (p := (fun i : Int => ent0 (M 430 (2112 + i)) 2 = u ∧ (c = -1 ∨ ent0 (M 430 (2112 + i)) 1 = c))) (f := fun _ => 1) (by first | assumption | omega)]; rfl) (ih (i + 1) (by omega))
theorem m_befell {x y z : Int} {M : Me} {c u : Int} (h14 : 0 ≤ M 430 14 ∧ M 430 14 ≤ 12) {n : Nat} (hn : M 430 12 = (n : Int)) (hn30 : n ≤ 30) (he : ∀ i : Int, 0 ≤ i → i < 30 → 0 ≤ M 430 (2112 + i) ∧ M 430 (2112 + i) < 1000000) : Con kX11_befell 2 0 0 [(1, 429), (0, c), (0, u)] (Sf x y z) M (fun v9 S9 M9 => S9 = (Sf x y z) ∧ (((c = -1 ∨ (0 ≤ c ∧ c ≤ M 430 14 - 1)) ∧ (0 ≤ u ∧ u ≤ 2)) ∧ v9 = some (0, isum (fun i : Int => ent0 (M 430 (2112 + i)) 2 = u ∧ (c = -1 ∨ ent0 (M 430 (2112 + i)) 1 = c)) (fun _ => 1) n) ∧ M9 = M ∨ (¬ ((c = -1 ∨ (0 ≤ c ∧ c ≤ M 430 14 - 1)) ∧ (0 ≤ u ∧ u ≤ 2))) ∧ v9 = some (0, -2) ∧ M9 = M)) := by
  refine Con.ofV (al := [(1, 429), (0, c), (0, u), (9, 0), (9, 0)]) 2 (by decide) (Nat.le_of_ble_eq_true rfl) rfl ?_
  refine r_iload_n dX11_befell_0 rfl ?_
  refine r_iconst dX11_befell_1 (by decide) ?_
  refine r_icmp_eq (tgt := 13) dX11_befell_2 (by decide) (fun h2 => ?_) (fun h2 => ?_)
  · refine r_iload_n dX11_befell_13 rfl ?_
    refine r_iconst dX11_befell_14 (by decide) ?_
    refine r_iconst dX11_befell_15 (by decide) ?_
    refine r_cs3 dX11_befell_16 clX11_62 (by first | decide | omega) (Nat.le_of_ble_eq_true rfl) (c_isIn) ⟨Nat.zero_le _, Nat.zero_le _⟩ (fun _ => ?_)
    refine r_if_ne (tgt := 25) dX11_befell_19 (by decide) (fun h19 => ?_) (fun h19 => ?_)
    · try have h19 := bi_1.mp h19
      refine r_iconst dX11_befell_25 (by decide) ?_
      refine r_istore_n dX11_befell_26 rfl (by decide) st3 ?_
      refine r_iconst dX11_befell_27 (by decide) ?_
      refine r_istore dX11_befell_28 rfl (by decide) st4 ?_
      exact V.mono (V.dd (l_befell hn hn30 he n 0 (by omega))) (fun v9 S9 M9 h => ⟨h.2.1, Or.inl ⟨by omega, h.1, h.2.2⟩⟩)
    · try have h19 := bi_0.mp h19
      refine r_bipush dX11_befell_22 (by decide) (by decide) ?_
      refine r_iret dX11_befell_24 rfl ?_
      first | exact ⟨rfl, Or.inl ⟨by omega, rfl, rfl⟩⟩ | exact ⟨rfl, Or.inr (⟨by omega, rfl, rfl⟩)⟩
  · refine r_aload_n dX11_befell_5 rfl (by decide) ?_
    refine r_iload_n dX11_befell_6 rfl ?_
    refine r_cv1 dX11_befell_7 clX11_81 sf429 (by decide) (by decide) rfl (by first | decide | omega) (Nat.le_of_ble_eq_true rfl) (m_isCrease h14) ⟨Nat.zero_le _, Nat.zero_le _⟩ (fun _ => ?_)
    refine r_if_eq (tgt := 22) dX11_befell_10 (by decide) (fun h10 => ?_) (fun h10 => ?_)
    · try have h10 := bi_0.mp h10
      refine r_bipush dX11_befell_22 (by decide) (by decide) ?_
      refine r_iret dX11_befell_24 rfl ?_
      first | exact ⟨rfl, Or.inl ⟨by omega, rfl, rfl⟩⟩ | exact ⟨rfl, Or.inr (⟨by omega, rfl, rfl⟩)⟩
    · try have h10 := bi_1.mp h10
      refine r_iload_n dX11_befell_13 rfl ?_
      refine r_iconst dX11_befell_14 (by decide) ?_
      refine r_iconst dX11_befell_15 (by decide) ?_
      refine r_cs3 dX11_befell_16 clX11_62 (by first | decide | omega) (Nat.le_of_ble_eq_true rfl) (c_isIn) ⟨Nat.zero_le _, Nat.zero_le _⟩ (fun _ => ?_)
      refine r_if_ne (tgt := 25) dX11_befell_19 (by decide) (fun h19 => ?_) (fun h19 => ?_)
      · try have h19 := bi_1.mp h19
        refine r_iconst dX11_befell_25 (by decide) ?_
        refine r_istore_n dX11_befell_26 rfl (by decide) st3 ?_
        refine r_iconst dX11_befell_27 (by decide) ?_
        refine r_istore dX11_befell_28 rfl (by decide) st4 ?_
        exact V.mono (V.dd (l_befell hn hn30 he n 0 (by omega))) (fun v9 S9 M9 h => ⟨h.2.1, Or.inl ⟨by omega, h.1, h.2.2⟩⟩)
      · try have h19 := bi_0.mp h19
        refine r_bipush dX11_befell_22 (by decide) (by decide) ?_
        refine r_iret dX11_befell_24 rfl ?_
        first | exact ⟨rfl, Or.inl ⟨by omega, rfl, rfl⟩⟩ | exact ⟨rfl, Or.inr (⟨by omega, rfl, rfl⟩)⟩
theorem l_eldest {x y z : Int} {M : Me} {p : Int} {n : Nat} (hn : M 430 14 = (n : Int)) (hn12 : n ≤ 12) : ∀ (m i : Nat), m + i = n → V kX11_eldest 0 0 2 none (Ex (some (0, fl1 (fun c f : Int => (M 430 (15 + 7 * c + 2) = p ∧ M 430 (15 + 7 * c + 1) = 0) ∧ (f = -1 ∨ M 430 (15 + 7 * c + 3) < M 430 (15 + 7 * f + 3))) (fun c _ => c) (-1) n)) (Sf x y z) M) 14 [(1, 429), (0, p), (0, fl1 (fun c f : Int => (M 430 (15 + 7 * c + 2) = p ∧ M 430 (15 + 7 * c + 1) = 0) ∧ (f = -1 ∨ M 430 (15 + 7 * c + 3) < M 430 (15 + 7 * f + 3))) (fun c _ => c) (-1) i), (0, (i : Int))] [] (Sf x y z) M 0 0 := by
  intro m
  induction m with
  | zero =>
    intro i hi
    obtain rfl : i = n := by omega
    refine r_iload_n dX11_eldest_14 rfl ?_
    refine r_aload_n dX11_eldest_15 rfl (by decide) ?_
    refine r_getr (x := 430) dX11_eldest_16 flX11_7 sf429 (by decide) (by decide) rfl rfl ?_
    refine r_bipush dX11_eldest_19 (by decide) (by decide) ?_
    refine r_iald dX11_eldest_21 sf430 (by decide) (by omega) (by omega) (by decide) hn ?_
    refine r_icmp_ge (tgt := 71) dX11_eldest_22 (by decide) (fun h22 => ?_) (fun h22 => by exfalso; omega)
    refine r_iload_n dX11_eldest_71 rfl ?_
    refine r_iret dX11_eldest_72 rfl ?_
    exact Ex.rf
  | succ m ih =>
    intro i hi
    have hb := fl1_lt (p := (fun c f : Int => (M 430 (15 + 7 * c + 2) = p ∧ M 430 (15 + 7 * c + 1) = 0) ∧ (f = -1 ∨ M 430 (15 + 7 * c + 3) < M 430 (15 + 7 * f + 3)))) i
    refine r_iload_n dX11_eldest_14 rfl ?_
    refine r_aload_n dX11_eldest_15 rfl (by decide) ?_
    refine r_getr (x := 430) dX11_eldest_16 flX11_7 sf429 (by decide) (by decide) rfl rfl ?_
    refine r_bipush dX11_eldest_19 (by decide) (by decide) ?_
    refine r_iald dX11_eldest_21 sf430 (by decide) (by omega) (by omega) (by decide) hn ?_
    refine r_icmp_ge (tgt := 71) dX11_eldest_22 (by decide) (fun h22 => by exfalso; omega) (fun h22 => ?_)
    refine r_aload_n dX11_eldest_25 rfl (by decide) ?_
    refine r_iload_n dX11_eldest_26 rfl ?_
    refine r_iconst dX11_eldest_27 (by decide) ?_
    refine r_cv2 dX11_eldest_28 clX11_66 sf429 (by decide) (by decide) rfl (by first | decide | omega) (Nat.le_of_ble_eq_true rfl) (c_get (by omega) (by decide)) ⟨Nat.zero_le _, Nat.zero_le _⟩ (fun _ => ?_)
    refine r_iload_n dX11_eldest_31 rfl ?_
    refine r_icmp_ne (tgt := 65) dX11_eldest_32 (by decide) (fun h32 => ?_) (fun h32 => ?_)
    · refine r_iinc dX11_eldest_65 rfl rfl (by decide) (w32_id (by omega)) st3 ?_
      refine r_goto (tgt := 14) dX11_eldest_68 (by decide) ?_
      first | exact V.al (by rw [fl1_t (p := (fun c f : Int => (M 430 (15 + 7 * c + 2) = p ∧ M 430 (15 + 7 * c + 1) = 0) ∧ (f = -1 ∨ M 430 (15 + 7 * c + 3) < M 430 (15 + 7 * f + 3)))) (v := fun c _ => c) (s0 := -1) (by first | assumption | omega)]; rfl) (ih (i + 1) (by omega)) | exact V.al (by rw [fl1_f (p := (fun c f : Int => (M 430 (15 + 7 * c + 2) = p ∧ M 430 (15 + 7 * c + 1) = 0) ∧ (f = -1 ∨ M 430 (15 + 7 * c + 3) < M 430 (15 + 7 * f + 3)))) (v := fun c _ => c) (s0 := -1) (by first | assumption | omega)]; rfl) (ih (i + 1) (by omega))
    · refine r_aload_n dX11_eldest_35 rfl (by decide) ?_
      refine r_iload_n dX11_eldest_36 rfl ?_
      refine r_cv1 dX11_eldest_37 clX11_70 sf429 (by decide) (by decide) rfl (by first | decide | omega) (Nat.le_of_ble_eq_true rfl) (c_isThere (by omega)) ⟨Nat.zero_le _, Nat.zero_le _⟩ (fun _ => ?_)
      refine r_if_eq (tgt := 65) dX11_eldest_40 (by decide) (fun h40 => ?_) (fun h40 => ?_)
      · try have h40 := bi_0.mp h40
        refine r_iinc dX11_eldest_65 rfl rfl (by decide) (w32_id (by omega)) st3 ?_
        refine r_goto (tgt := 14) dX11_eldest_68 (by decide) ?_
        first | exact V.al (by rw [fl1_t (p := (fun c f : Int => (M 430 (15 + 7 * c + 2) = p ∧ M 430 (15 + 7 * c + 1) = 0) ∧ (f = -1 ∨ M 430 (15 + 7 * c + 3) < M 430 (15 + 7 * f + 3)))) (v := fun c _ => c) (s0 := -1) (by first | assumption | omega)]; rfl) (ih (i + 1) (by omega)) | exact V.al (by rw [fl1_f (p := (fun c f : Int => (M 430 (15 + 7 * c + 2) = p ∧ M 430 (15 + 7 * c + 1) = 0) ∧ (f = -1 ∨ M 430 (15 + 7 * c + 3) < M 430 (15 + 7 * f + 3)))) (v := fun c _ => c) (s0 := -1) (by first | assumption | omega)]; rfl) (ih (i + 1) (by omega))
      · try have h40 := bi_1.mp h40
        refine r_iload_n dX11_eldest_43 rfl ?_
        refine r_iconst dX11_eldest_44 (by decide) ?_
        refine r_icmp_eq (tgt := 63) dX11_eldest_45 (by decide) (fun h45 => ?_) (fun h45 => ?_)
        · refine r_iload_n dX11_eldest_63 rfl ?_
          refine r_istore_n dX11_eldest_64 rfl (by decide) st2 ?_
          refine r_iinc dX11_eldest_65 rfl rfl (by decide) (w32_id (by omega)) st3 ?_
          refine r_goto (tgt := 14) dX11_eldest_68 (by decide) ?_
          first | exact V.al (by rw [fl1_t (p := (fun c f : Int => (M 430 (15 + 7 * c + 2) = p ∧ M 430 (15 + 7 * c + 1) = 0) ∧ (f = -1 ∨ M 430 (15 + 7 * c + 3) < M 430 (15 + 7 * f + 3)))) (v := fun c _ => c) (s0 := -1) (by first | assumption | omega)]; rfl) (ih (i + 1) (by omega)) | exact V.al (by rw [fl1_f (p := (fun c f : Int => (M 430 (15 + 7 * c + 2) = p ∧ M 430 (15 + 7 * c + 1) = 0) ∧ (f = -1 ∨ M 430 (15 + 7 * c + 3) < M 430 (15 + 7 * f + 3)))) (v := fun c _ => c) (s0 := -1) (by first | assumption | omega)]; rfl) (ih (i + 1) (by omega))
        · refine r_aload_n dX11_eldest_48 rfl (by decide) ?_
          refine r_iload_n dX11_eldest_49 rfl ?_
          refine r_iconst dX11_eldest_50 (by decide) ?_
          refine r_cv2 dX11_eldest_51 clX11_66 sf429 (by decide) (by decide) rfl (by first | decide | omega) (Nat.le_of_ble_eq_true rfl) (c_get (by omega) (by decide)) ⟨Nat.zero_le _, Nat.zero_le _⟩ (fun _ => ?_)
          refine r_aload_n dX11_eldest_54 rfl (by decide) ?_
          refine r_iload_n dX11_eldest_55 rfl ?_
          refine r_iconst dX11_eldest_56 (by decide) ?_
          refine r_cv2 dX11_eldest_57 clX11_66 sf429 (by decide) (by decide) rfl (by first | decide | omega) (Nat.le_of_ble_eq_true rfl) (c_get (by omega) (by decide)) ⟨Nat.zero_le _, Nat.zero_le _⟩ (fun _ => ?_)
          refine r_icmp_ge (tgt := 65) dX11_eldest_60 (by decide) (fun h60 => ?_) (fun h60 => ?_)
          · refine r_iinc dX11_eldest_65 rfl rfl (by decide) (w32_id (by omega)) st3 ?_
            refine r_goto (tgt := 14) dX11_eldest_68 (by decide) ?_
            first | exact V.al (by rw [fl1_t (p := (fun c f : Int => (M 430 (15 + 7 * c + 2) = p ∧ M 430 (15 + 7 * c + 1) = 0) ∧ (f = -1 ∨ M 430 (15 + 7 * c + 3) < M 430 (15 + 7 * f + 3)))) (v := fun c _ => c) (s0 := -1) (by first | assumption | omega)]; rfl) (ih (i + 1) (by omega)) | exact V.al (by rw [fl1_f (p := (fun c f : Int => (M 430 (15 + 7 * c + 2) = p ∧ M 430 (15 + 7 * c + 1) = 0) ∧ (f = -1 ∨ M 430 (15 + 7 * c + 3) < M 430 (15 + 7 * f + 3)))) (v := fun c _ => c) (s0 := -1) (by first | assumption | omega)]; rfl) (ih (i + 1) (by omega))
          · refine r_iload_n dX11_eldest_63 rfl ?_
            refine r_istore_n dX11_eldest_64 rfl (by decide) st2 ?_
            refine r_iinc dX11_eldest_65 rfl rfl (by decide) (w32_id (by omega)) st3 ?_
            refine r_goto (tgt := 14) dX11_eldest_68 (by decide) ?_
            first | exact V.al (by rw [fl1_t (p := (fun c f : Int => (M 430 (15 + 7 * c + 2) = p ∧ M 430 (15 + 7 * c + 1) = 0) ∧ (f = -1 ∨ M 430 (15 + 7 * c + 3) < M 430 (15 + 7 * f + 3)))) (v := fun c _ => c) (s0 := -1) (by first | assumption | omega)]; rfl) (ih (i + 1) (by omega)) | exact V.al (by rw [fl1_f (p := (fun c f : Int => (M 430 (15 + 7 * c + 2) = p ∧ M 430 (15 + 7 * c + 1) = 0) ∧ (f = -1 ∨ M 430 (15 + 7 * c + 3) < M 430 (15 + 7 * f + 3)))) (v := fun c _ => c) (s0 := -1) (by first | assumption | omega)]; rfl) (ih (i + 1) (by omega))
theorem m_eldest {x y z : Int} {M : Me} {p : Int} (h0 : 0 ≤ M 430 0 ∧ M 430 0 ≤ 5) {n : Nat} (hn : M 430 14 = (n : Int)) (hn12 : n ≤ 12) : Con kX11_eldest 2 0 0 [(1, 429), (0, p)] (Sf x y z) M (fun v9 S9 M9 => S9 = (Sf x y z) ∧ ((0 ≤ p ∧ p ≤ M 430 0 - 1) ∧ v9 = some (0, fl1 (fun c f : Int => (M 430 (15 + 7 * c + 2) = p ∧ M 430 (15 + 7 * c + 1) = 0) ∧ (f = -1 ∨ M 430 (15 + 7 * c + 3) < M 430 (15 + 7 * f + 3))) (fun c _ => c) (-1) n) ∧ M9 = M ∨ (¬ (0 ≤ p ∧ p ≤ M 430 0 - 1)) ∧ v9 = some (0, -1) ∧ M9 = M)) := by
  refine Con.ofV (al := [(1, 429), (0, p), (9, 0), (9, 0)]) 2 (by decide) (Nat.le_of_ble_eq_true rfl) rfl ?_
  refine r_aload_n dX11_eldest_0 rfl (by decide) ?_
  refine r_iload_n dX11_eldest_1 rfl ?_
  refine r_cv1 dX11_eldest_2 clX11_74 sf429 (by decide) (by decide) rfl (by first | decide | omega) (Nat.le_of_ble_eq_true rfl) (m_isPerson h0) ⟨Nat.zero_le _, Nat.zero_le _⟩ (fun _ => ?_)
  refine r_if_ne (tgt := 10) dX11_eldest_5 (by decide) (fun h5 => ?_) (fun h5 => ?_)
  · try have h5 := bi_1.mp h5
    refine r_iconst dX11_eldest_10 (by decide) ?_
    refine r_istore_n dX11_eldest_11 rfl (by decide) st2 ?_
    refine r_iconst dX11_eldest_12 (by decide) ?_
    refine r_istore_n dX11_eldest_13 rfl (by decide) st3 ?_
    exact V.mono (l_eldest hn hn12 n 0 (by omega)) (fun v9 S9 M9 h => ⟨h.2.1, Or.inl ⟨by omega, h.1, h.2.2⟩⟩)
  · try have h5 := bi_0.mp h5
    refine r_iconst dX11_eldest_8 (by decide) ?_
    refine r_iret dX11_eldest_9 rfl ?_
    first | exact ⟨rfl, Or.inl ⟨by omega, rfl, rfl⟩⟩ | exact ⟨rfl, Or.inr (⟨by omega, rfl, rfl⟩)⟩
theorem l_tensOf {x y z : Int} {M : Me} {p : Int} {n : Nat} (hn : M 430 14 = (n : Int)) (hn12 : n ≤ 12) (hy : ∀ c : Int, 0 ≤ c → c < n → 0 ≤ M 430 (15 + 7 * c + 3) ∧ M 430 (15 + 7 * c + 3) ≤ 99) : ∀ (m i : Nat), m + i = n → V kX11_tensOf 0 0 2 none (Ex (some (0, bset (fun c : Int => M 430 (15 + 7 * c + 2) = p ∧ M 430 (15 + 7 * c + 1) = 0) (fun c : Int => M 430 (15 + 7 * c + 3) / 10) n)) (Sf x y z) M) 4 [(1, 429), (0, p), (0, bset (fun c : Int => M 430 (15 + 7 * c + 2) = p ∧ M 430 (15 + 7 * c + 1) = 0) (fun c : Int => M 430 (15 + 7 * c + 3) / 10) i), (0, (i : Int))] [] (Sf x y z) M 0 0 := by
  intro m
  induction m with
  | zero =>
    intro i hi
    obtain rfl : i = n := by omega
    refine r_iload_n dX11_tensOf_4 rfl ?_
    refine r_aload_n dX11_tensOf_5 rfl (by decide) ?_
    refine r_getr (x := 430) dX11_tensOf_6 flX11_7 sf429 (by decide) (by decide) rfl rfl ?_
    refine r_bipush dX11_tensOf_9 (by decide) (by decide) ?_
    refine r_iald dX11_tensOf_11 sf430 (by decide) (by omega) (by omega) (by decide) hn ?_
    refine r_icmp_ge (tgt := 57) dX11_tensOf_12 (by decide) (fun h12 => ?_) (fun h12 => by exfalso; omega)
    refine r_iload_n dX11_tensOf_57 rfl ?_
    refine r_iret dX11_tensOf_58 rfl ?_
    exact Ex.rf
  | succ m ih =>
    intro i hi
    have hb := hy i (by omega) (by omega)
    refine r_iload_n dX11_tensOf_4 rfl ?_
    refine r_aload_n dX11_tensOf_5 rfl (by decide) ?_
    refine r_getr (x := 430) dX11_tensOf_6 flX11_7 sf429 (by decide) (by decide) rfl rfl ?_
    refine r_bipush dX11_tensOf_9 (by decide) (by decide) ?_
    refine r_iald dX11_tensOf_11 sf430 (by decide) (by omega) (by omega) (by decide) hn ?_
    refine r_icmp_ge (tgt := 57) dX11_tensOf_12 (by decide) (fun h12 => by exfalso; omega) (fun h12 => ?_)
    refine r_iload_n dX11_tensOf_15 rfl ?_
    refine r_aload_n dX11_tensOf_16 rfl (by decide) ?_
    refine r_iload_n dX11_tensOf_17 rfl ?_
    refine r_iconst dX11_tensOf_18 (by decide) ?_
    refine r_cv2 dX11_tensOf_19 clX11_66 sf429 (by decide) (by decide) rfl (by first | decide | omega) (Nat.le_of_ble_eq_true rfl) (c_get (by omega) (by decide)) ⟨Nat.zero_le _, Nat.zero_le _⟩ (fun _ => ?_)
    refine r_iload_n dX11_tensOf_22 rfl ?_
    refine r_icmp_ne (tgt := 48) dX11_tensOf_23 (by decide) (fun h23 => ?_) (fun h23 => ?_)
    · refine r_iconst dX11_tensOf_48 (by decide) ?_
      refine r_ior dX11_tensOf_49 rfl ?_
      refine r_istore_n dX11_tensOf_50 rfl (by decide) st2 ?_
      refine r_iinc dX11_tensOf_51 rfl rfl (by decide) (w32_id (by omega)) st3 ?_
      refine r_goto (tgt := 4) dX11_tensOf_54 (by decide) ?_
      first | exact V.al (by rw [bset_t (p := (fun c : Int => M 430 (15 + 7 * c + 2) = p ∧ M 430 (15 + 7 * c + 1) = 0)) (f := (fun c : Int => M 430 (15 + 7 * c + 3) / 10)) (by first | assumption | omega)]; rfl) (ih (i + 1) (by omega)) | exact V.al (by rw [bset_f (p := (fun c : Int => M 430 (15 + 7 * c + 2) = p ∧ M 430 (15 + 7 * c + 1) = 0)) (f := (fun c : Int => M 430 (15 + 7 * c + 3) / 10)) (by first | assumption | omega)]; rfl) (ih (i + 1) (by omega))
    · refine r_aload_n dX11_tensOf_26 rfl (by decide) ?_
      refine r_iload_n dX11_tensOf_27 rfl ?_
      refine r_cv1 dX11_tensOf_28 clX11_70 sf429 (by decide) (by decide) rfl (by first | decide | omega) (Nat.le_of_ble_eq_true rfl) (c_isThere (by omega)) ⟨Nat.zero_le _, Nat.zero_le _⟩ (fun _ => ?_)
      refine r_if_eq (tgt := 48) dX11_tensOf_31 (by decide) (fun h31 => ?_) (fun h31 => ?_)
      · try have h31 := bi_0.mp h31
        refine r_iconst dX11_tensOf_48 (by decide) ?_
        refine r_ior dX11_tensOf_49 rfl ?_
        refine r_istore_n dX11_tensOf_50 rfl (by decide) st2 ?_
        refine r_iinc dX11_tensOf_51 rfl rfl (by decide) (w32_id (by omega)) st3 ?_
        refine r_goto (tgt := 4) dX11_tensOf_54 (by decide) ?_
        first | exact V.al (by rw [bset_t (p := (fun c : Int => M 430 (15 + 7 * c + 2) = p ∧ M 430 (15 + 7 * c + 1) = 0)) (f := (fun c : Int => M 430 (15 + 7 * c + 3) / 10)) (by first | assumption | omega)]; rfl) (ih (i + 1) (by omega)) | exact V.al (by rw [bset_f (p := (fun c : Int => M 430 (15 + 7 * c + 2) = p ∧ M 430 (15 + 7 * c + 1) = 0)) (f := (fun c : Int => M 430 (15 + 7 * c + 3) / 10)) (by first | assumption | omega)]; rfl) (ih (i + 1) (by omega))
      · try have h31 := bi_1.mp h31
        refine r_iconst dX11_tensOf_34 (by decide) ?_
        refine r_aload_n dX11_tensOf_35 rfl (by decide) ?_
        refine r_iload_n dX11_tensOf_36 rfl ?_
        refine r_iconst dX11_tensOf_37 (by decide) ?_
        refine r_cv2 dX11_tensOf_38 clX11_66 sf429 (by decide) (by decide) rfl (by first | decide | omega) (Nat.le_of_ble_eq_true rfl) (c_get (by omega) (by decide)) ⟨Nat.zero_le _, Nat.zero_le _⟩ (fun _ => ?_)
        refine r_bipush dX11_tensOf_41 (by decide) (by decide) ?_
        refine r_idiv dX11_tensOf_43 (by omega) (dvn (by omega) (by omega) (by omega)) ?_
        refine r_ishl dX11_tensOf_44 rfl ?_
        refine r_goto (tgt := 49) dX11_tensOf_45 (by decide) ?_
        refine r_ior dX11_tensOf_49 rfl ?_
        refine r_istore_n dX11_tensOf_50 rfl (by decide) st2 ?_
        refine r_iinc dX11_tensOf_51 rfl rfl (by decide) (w32_id (by omega)) st3 ?_
        refine r_goto (tgt := 4) dX11_tensOf_54 (by decide) ?_
        first | exact V.al (by rw [bset_t (p := (fun c : Int => M 430 (15 + 7 * c + 2) = p ∧ M 430 (15 + 7 * c + 1) = 0)) (f := (fun c : Int => M 430 (15 + 7 * c + 3) / 10)) (by first | assumption | omega)]; rfl) (ih (i + 1) (by omega)) | exact V.al (by rw [bset_f (p := (fun c : Int => M 430 (15 + 7 * c + 2) = p ∧ M 430 (15 + 7 * c + 1) = 0)) (f := (fun c : Int => M 430 (15 + 7 * c + 3) / 10)) (by first | assumption | omega)]; rfl) (ih (i + 1) (by omega))
theorem m_tensOf {x y z : Int} {M : Me} {p : Int} {n : Nat} (hn : M 430 14 = (n : Int)) (hn12 : n ≤ 12) (hy : ∀ c : Int, 0 ≤ c → c < n → 0 ≤ M 430 (15 + 7 * c + 3) ∧ M 430 (15 + 7 * c + 3) ≤ 99) : Con kX11_tensOf 2 0 0 [(1, 429), (0, p)] (Sf x y z) M (Ex (some (0, bset (fun c : Int => M 430 (15 + 7 * c + 2) = p ∧ M 430 (15 + 7 * c + 1) = 0) (fun c : Int => M 430 (15 + 7 * c + 3) / 10) n)) (Sf x y z) M) := by
  refine Con.ofV (al := [(1, 429), (0, p), (9, 0), (9, 0)]) 2 (by decide) (Nat.le_of_ble_eq_true rfl) rfl ?_
  refine r_iconst dX11_tensOf_0 (by decide) ?_
  refine r_istore_n dX11_tensOf_1 rfl (by decide) st2 ?_
  refine r_iconst dX11_tensOf_2 (by decide) ?_
  refine r_istore_n dX11_tensOf_3 rfl (by decide) st3 ?_
  exact l_tensOf hn hn12 hy n 0 (by omega)
theorem l_blank {x y z : Int} {M : Me} {n : Nat} (hn : M 430 14 = (n : Int)) (hn12 : n ≤ 12) {n5 : Nat} (h5 : M 430 0 = (n5 : Int)) (h55 : n5 ≤ 5) : ∀ (m i : Nat), m + i = n5 → V kX11_blank 0 0 3 none (Ex (some (0, bset (fun p : Int => and32 (bset (fun c : Int => M 430 (15 + 7 * c + 2) = p) (fun c => c) n) (bset (fun c : Int => M 430 (15 + 7 * c + 1) = 0) (fun c => c) n) = 0) (fun p => p) n5)) (Sf x y z) M) 4 [(1, 429), (0, bset (fun p : Int => and32 (bset (fun c : Int => M 430 (15 + 7 * c + 2) = p) (fun c => c) n) (bset (fun c : Int => M 430 (15 + 7 * c + 1) = 0) (fun c => c) n) = 0) (fun p => p) i), (0, (i : Int))] [] (Sf x y z) M 0 0 := by
  intro m
  induction m with
  | zero =>
    intro i hi
    obtain rfl : i = n5 := by omega
    refine r_iload_n dX11_blank_4 rfl ?_
    refine r_aload_n dX11_blank_5 rfl (by decide) ?_
    refine r_getr (x := 430) dX11_blank_6 flX11_7 sf429 (by decide) (by decide) rfl rfl ?_
    refine r_iconst dX11_blank_9 (by decide) ?_
    refine r_iald dX11_blank_10 sf430 (by decide) (by omega) (by omega) (by decide) h5 ?_
    refine r_icmp_ge (tgt := 43) dX11_blank_11 (by decide) (fun h11 => ?_) (fun h11 => by exfalso; omega)
    refine r_iload_n dX11_blank_43 rfl ?_
    refine r_iret dX11_blank_44 rfl ?_
    exact Ex.rf
  | succ m ih =>
    intro i hi
    refine r_iload_n dX11_blank_4 rfl ?_
    refine r_aload_n dX11_blank_5 rfl (by decide) ?_
    refine r_getr (x := 430) dX11_blank_6 flX11_7 sf429 (by decide) (by decide) rfl rfl ?_
    refine r_iconst dX11_blank_9 (by decide) ?_
    refine r_iald dX11_blank_10 sf430 (by decide) (by omega) (by omega) (by decide) h5 ?_
    refine r_icmp_ge (tgt := 43) dX11_blank_11 (by decide) (fun h11 => by exfalso; omega) (fun h11 => ?_)
    refine r_iload_n dX11_blank_14 rfl ?_
    refine r_aload_n dX11_blank_15 rfl (by decide) ?_
    refine r_iload_n dX11_blank_16 rfl ?_
    refine r_cv1 dX11_blank_17 clX11_387 sf429 (by decide) (by decide) rfl (by first | decide | omega) (Nat.le_of_ble_eq_true rfl) (c_ownedBy hn hn12) ⟨Nat.zero_le _, Nat.zero_le _⟩ (fun _ => ?_)
    refine r_aload_n dX11_blank_20 rfl (by decide) ?_
    refine r_cv0 dX11_blank_21 clX11_336 sf429 (by decide) (by decide) rfl (by first | decide | omega) (Nat.le_of_ble_eq_true rfl) (c_there hn hn12) ⟨Nat.zero_le _, Nat.zero_le _⟩ (fun _ => ?_)
    refine r_iand dX11_blank_24 rfl ?_
    refine r_if_ne (tgt := 34) dX11_blank_25 (by decide) (fun h25 => ?_) (fun h25 => ?_)
    · try have h25 := bi_1.mp h25
      refine r_iconst dX11_blank_34 (by decide) ?_
      refine r_ior dX11_blank_35 rfl ?_
      refine r_istore_n dX11_blank_36 rfl (by decide) st1 ?_
      refine r_iinc dX11_blank_37 rfl rfl (by decide) (w32_id (by omega)) st2 ?_
      refine r_goto (tgt := 4) dX11_blank_40 (by decide) ?_
      first | exact V.al (by rw [bset_t (p := (fun p : Int => and32 (bset (fun c : Int => M 430 (15 + 7 * c + 2) = p) (fun c => c) n) (bset (fun c : Int => M 430 (15 + 7 * c + 1) = 0) (fun c => c) n) = 0)) (f := fun p => p) (by first | assumption | omega)]; rfl) (ih (i + 1) (by omega)) | exact V.al (by rw [bset_f (p := (fun p : Int => and32 (bset (fun c : Int => M 430 (15 + 7 * c + 2) = p) (fun c => c) n) (bset (fun c : Int => M 430 (15 + 7 * c + 1) = 0) (fun c => c) n) = 0)) (f := fun p => p) (by first | assumption | omega)]; rfl) (ih (i + 1) (by omega))
    · try have h25 := bi_0.mp h25
      refine r_iconst dX11_blank_28 (by decide) ?_
      refine r_iload_n dX11_blank_29 rfl ?_
      refine r_ishl dX11_blank_30 rfl ?_
      refine r_goto (tgt := 35) dX11_blank_31 (by decide) ?_
      refine r_ior dX11_blank_35 rfl ?_
      refine r_istore_n dX11_blank_36 rfl (by decide) st1 ?_
      refine r_iinc dX11_blank_37 rfl rfl (by decide) (w32_id (by omega)) st2 ?_
      refine r_goto (tgt := 4) dX11_blank_40 (by decide) ?_
      first | exact V.al (by rw [bset_t (p := (fun p : Int => and32 (bset (fun c : Int => M 430 (15 + 7 * c + 2) = p) (fun c => c) n) (bset (fun c : Int => M 430 (15 + 7 * c + 1) = 0) (fun c => c) n) = 0)) (f := fun p => p) (by first | assumption | omega)]; rfl) (ih (i + 1) (by omega)) | exact V.al (by rw [bset_f (p := (fun p : Int => and32 (bset (fun c : Int => M 430 (15 + 7 * c + 2) = p) (fun c => c) n) (bset (fun c : Int => M 430 (15 + 7 * c + 1) = 0) (fun c => c) n) = 0)) (f := fun p => p) (by first | assumption | omega)]; rfl) (ih (i + 1) (by omega))
theorem m_blank {x y z : Int} {M : Me} {n : Nat} (hn : M 430 14 = (n : Int)) (hn12 : n ≤ 12) {n5 : Nat} (h5 : M 430 0 = (n5 : Int)) (h55 : n5 ≤ 5) : Con kX11_blank 3 0 0 [(1, 429)] (Sf x y z) M (Ex (some (0, bset (fun p : Int => and32 (bset (fun c : Int => M 430 (15 + 7 * c + 2) = p) (fun c => c) n) (bset (fun c : Int => M 430 (15 + 7 * c + 1) = 0) (fun c => c) n) = 0) (fun p => p) n5)) (Sf x y z) M) := by
  refine Con.ofV (al := [(1, 429), (9, 0), (9, 0)]) 2 (by decide) (Nat.le_of_ble_eq_true rfl) rfl ?_
  refine r_iconst dX11_blank_0 (by decide) ?_
  refine r_istore_n dX11_blank_1 rfl (by decide) st1 ?_
  refine r_iconst dX11_blank_2 (by decide) ?_
  refine r_istore_n dX11_blank_3 rfl (by decide) st2 ?_
  exact l_blank hn hn12 h5 h55 n5 0 (by omega)
