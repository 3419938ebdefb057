def bi (p : Prop) [Decidable p] : Int := if p then 1 else 0
theorem bi_t {p : Prop} [Decidable p] (h : p) : bi p = 1 := if_pos h
theorem bi_f {p : Prop} [Decidable p] (h : ¬ p) : bi p = 0 := if_neg h
theorem bi_0 {p : Prop} [Decidable p] : bi p = 0 ↔ ¬ p := by unfold bi; split <;> simp_all
theorem bi_1 {p : Prop} [Decidable p] : bi p ≠ 0 ↔ p := by unfold bi; split <;> simp_all
theorem bi_in {p : Prop} [Decidable p] : 0 ≤ bi p ∧ bi p ≤ 1 := by unfold bi; split <;> omega
def hold (v low top : Int) : Int := if v < low then low else if top < v then top else v
theorem c_isIn {S : Sh} {M : Me} {v low top : Int} : Con kX11_isIn 0 0 0 [(0, v), (0, low), (0, top)] S M (Ex (some (0, bi (low ≤ v ∧ v ≤ top))) S M) := by
  refine Con.ofV (al := [(0, v), (0, low), (0, top)]) 0 (by decide) (Nat.le_of_ble_eq_true rfl) rfl ?_
  refine r_iload_n dX11_isIn_0 rfl ?_
  refine r_iload_n dX11_isIn_1 rfl ?_
  refine r_icmp_lt (tgt := 14) dX11_isIn_2 (by decide) (fun h2 => ?_) (fun h2 => ?_)
  · refine r_iconst dX11_isIn_14 (by decide) ?_
    refine r_zret dX11_isIn_15 rfl (by omega) ?_
    first | exact ⟨by rw [bi_t (by omega)], rfl, rfl⟩ | exact ⟨by rw [bi_f (by omega)], rfl, rfl⟩
  · refine r_iload_n dX11_isIn_5 rfl ?_
    refine r_iload_n dX11_isIn_6 rfl ?_
    refine r_icmp_gt (tgt := 14) dX11_isIn_7 (by decide) (fun h7 => ?_) (fun h7 => ?_)
    · refine r_iconst dX11_isIn_14 (by decide) ?_
      refine r_zret dX11_isIn_15 rfl (by omega) ?_
      first | exact ⟨by rw [bi_t (by omega)], rfl, rfl⟩ | exact ⟨by rw [bi_f (by omega)], rfl, rfl⟩
    · refine r_iconst dX11_isIn_10 (by decide) ?_
      refine r_goto (tgt := 15) dX11_isIn_11 (by decide) ?_
      refine r_zret dX11_isIn_15 rfl (by omega) ?_
      first | exact ⟨by rw [bi_t (by omega)], rfl, rfl⟩ | exact ⟨by rw [bi_f (by omega)], rfl, rfl⟩
theorem c_has {S : Sh} {M : Me} {s j : Int} : Con kX11_has 0 0 0 [(0, s), (0, j)] S M (Ex (some (0, bi (and32 (shr32 s j) 1 = 1))) S M) := by
  refine Con.ofV (al := [(0, s), (0, j)]) 0 (by decide) (Nat.le_of_ble_eq_true rfl) rfl ?_
  refine r_iload_n dX11_has_0 rfl ?_
  refine r_iload_n dX11_has_1 rfl ?_
  refine r_ishr dX11_has_2 rfl ?_
  refine r_iconst dX11_has_3 (by decide) ?_
  refine r_iand dX11_has_4 rfl ?_
  refine r_iconst dX11_has_5 (by decide) ?_
  refine r_icmp_ne (tgt := 13) dX11_has_6 (by decide) (fun h6 => ?_) (fun h6 => ?_)
  · refine r_iconst dX11_has_13 (by decide) ?_
    refine r_zret dX11_has_14 rfl (by omega) ?_
    first | exact ⟨by rw [bi_t (by assumption)], rfl, rfl⟩ | exact ⟨by rw [bi_f (by assumption)], rfl, rfl⟩
  · refine r_iconst dX11_has_9 (by decide) ?_
    refine r_goto (tgt := 14) dX11_has_10 (by decide) ?_
    refine r_zret dX11_has_14 rfl (by omega) ?_
    first | exact ⟨by rw [bi_t (by assumption)], rfl, rfl⟩ | exact ⟨by rw [bi_f (by assumption)], rfl, rfl⟩
theorem c_get {x y z : Int} {M : Me} {c u : Int} (hc : 0 ≤ c ∧ c < 12) (hu : 0 ≤ u ∧ u < 7) : Con kX11_get 0 0 0 [(1, 429), (0, c), (0, u)] (Sf x y z) M (Ex (some (0, M 430 (15 + 7 * c + u))) (Sf x y z) M) := by
  refine Con.ofV (al := [(1, 429), (0, c), (0, u)]) 0 (by decide) (Nat.le_of_ble_eq_true rfl) rfl ?_
  refine r_aload_n dX11_get_0 rfl (by decide) ?_
  refine r_getr (x := 430) dX11_get_1 flX11_7 sf429 (by decide) (by decide) rfl rfl ?_
  refine r_bipush dX11_get_4 (by decide) (by decide) ?_
  refine r_bipush dX11_get_6 (by decide) (by decide) ?_
  refine r_iload_n dX11_get_8 rfl ?_
  refine r_imul dX11_get_9 (w32_id (by omega)) ?_
  refine r_iadd dX11_get_10 (w32_id (by omega)) ?_
  refine r_iload_n dX11_get_11 rfl ?_
  refine r_iadd dX11_get_12 (w32_id (by omega)) ?_
  refine r_iald dX11_get_13 sf430 (by decide) (by omega) (by omega) (by decide) (by first | assumption | ((repeat (first | (apply rd_ne; · omega) | (apply rd_eq; · omega) | (apply rd_out; · omega) | (apply rd_in; · omega))); first | assumption | rfl)) ?_
  refine r_iret dX11_get_14 rfl ?_
  exact Ex.rf
theorem c_own {x y z : Int} {M : Me} {p u : Int} (hp : 0 ≤ p ∧ p < 5) (hu : 0 ≤ u ∧ u < 3) : Con kX11_own 0 0 0 [(1, 429), (0, p), (0, u)] (Sf x y z) M (Ex (some (0, M 430 (99 + 3 * p + u))) (Sf x y z) M) := by
  refine Con.ofV (al := [(1, 429), (0, p), (0, u)]) 0 (by decide) (Nat.le_of_ble_eq_true rfl) rfl ?_
  refine r_aload_n dX11_own_0 rfl (by decide) ?_
  refine r_getr (x := 430) dX11_own_1 flX11_7 sf429 (by decide) (by decide) rfl rfl ?_
  refine r_bipush dX11_own_4 (by decide) (by decide) ?_
  refine r_iconst dX11_own_6 (by decide) ?_
  refine r_iload_n dX11_own_7 rfl ?_
  refine r_imul dX11_own_8 (w32_id (by omega)) ?_
  refine r_iadd dX11_own_9 (w32_id (by omega)) ?_
  refine r_iload_n dX11_own_10 rfl ?_
  refine r_iadd dX11_own_11 (w32_id (by omega)) ?_
  refine r_iald dX11_own_12 sf430 (by decide) (by omega) (by omega) (by decide) (by first | assumption | ((repeat (first | (apply rd_ne; · omega) | (apply rd_eq; · omega) | (apply rd_out; · omega) | (apply rd_in; · omega))); first | assumption | rfl)) ?_
  refine r_iret dX11_own_13 rfl ?_
  exact Ex.rf
theorem c_put {x y z : Int} {M : Me} {c u v : Int} (hc : 0 ≤ c ∧ c < 12) (hu : 0 ≤ u ∧ u < 7) : Con kX11_put 0 0 0 [(1, 429), (0, c), (0, u), (0, v)] (Sf x y z) M (Ex none (Sf x y z) (up M 430 (15 + 7 * c + u) v)) := by
  refine Con.ofV (al := [(1, 429), (0, c), (0, u), (0, v)]) 0 (by decide) (Nat.le_of_ble_eq_true rfl) rfl ?_
  refine r_aload_n dX11_put_0 rfl (by decide) ?_
  refine r_getr (x := 430) dX11_put_1 flX11_7 sf429 (by decide) (by decide) rfl rfl ?_
  refine r_bipush dX11_put_4 (by decide) (by decide) ?_
  refine r_bipush dX11_put_6 (by decide) (by decide) ?_
  refine r_iload_n dX11_put_8 rfl ?_
  refine r_imul dX11_put_9 (w32_id (by omega)) ?_
  refine r_iadd dX11_put_10 (w32_id (by omega)) ?_
  refine r_iload_n dX11_put_11 rfl ?_
  refine r_iadd dX11_put_12 (w32_id (by omega)) ?_
  refine r_iload_n dX11_put_13 rfl ?_
  refine r_iast dX11_put_14 sf430 (by decide) (by omega) (by omega) (by decide) rfl ?_
  refine r_ret0 dX11_put_15 rfl ?_
  exact Ex.rf
theorem c_isThere {x y z : Int} {M : Me} {c : Int} (hc : 0 ≤ c ∧ c < 12) : Con kX11_isThere 1 0 0 [(1, 429), (0, c)] (Sf x y z) M (Ex (some (0, bi (M 430 (15 + 7 * c + 1) = 0))) (Sf x y z) M) := by
  refine Con.ofV (al := [(1, 429), (0, c)]) 0 (by decide) (Nat.le_of_ble_eq_true rfl) rfl ?_
  refine r_aload_n dX11_isThere_0 rfl (by decide) ?_
  refine r_iload_n dX11_isThere_1 rfl ?_
  refine r_iconst dX11_isThere_2 (by decide) ?_
  refine r_cv2 dX11_isThere_3 clX11_66 sf429 (by decide) (by decide) rfl (by first | decide | omega) (Nat.le_of_ble_eq_true rfl) (c_get hc (by decide)) ⟨Nat.zero_le _, Nat.zero_le _⟩ (fun _ => ?_)
  refine r_if_ne (tgt := 13) dX11_isThere_6 (by decide) (fun h6 => ?_) (fun h6 => ?_)
  · try have h6 := bi_1.mp h6
    refine r_iconst dX11_isThere_13 (by decide) ?_
    refine r_zret dX11_isThere_14 rfl (by omega) ?_
    first | exact ⟨by rw [bi_t (by assumption)], rfl, rfl⟩ | exact ⟨by rw [bi_f (by assumption)], rfl, rfl⟩
  · try have h6 := bi_0.mp h6
    refine r_iconst dX11_isThere_9 (by decide) ?_
    refine r_goto (tgt := 14) dX11_isThere_10 (by decide) ?_
    refine r_zret dX11_isThere_14 rfl (by omega) ?_
    first | exact ⟨by rw [bi_t (by assumption)], rfl, rfl⟩ | exact ⟨by rw [bi_f (by assumption)], rfl, rfl⟩
theorem V.al {k : MI} {c1 c2 dd : Nat} {xs : Option (List Int)} {Q : Option AV → Sh → Me → Prop} {pc : Nat} {al al2 st : List AV} {S : Sh} {M : Me} {n1 n2 : Nat} (h : al = al2) (k9 : V k c1 c2 dd xs Q pc al2 st S M n1 n2) : V k c1 c2 dd xs Q pc al st S M n1 n2 := h ▸ k9
theorem V.dd {k : MI} {c1 c2 dd d2 : Nat} {xs : Option (List Int)} {Q : Option AV → Sh → Me → Prop} {pc : Nat} {al st : List AV} {S : Sh} {M : Me} {n1 n2 : Nat} (k9 : V k c1 c2 dd xs Q pc al st S M n1 n2) (h : dd ≤ d2 := by decide) : V k c1 c2 d2 xs Q pc al st S M n1 n2 := by
  intro p l e R s m args below meth c b κ D sc Tg H locs ls Cc F hn12 hW hL ho hS
  obtain ⟨g1, g2, ⟨r1, r2, r3, r4⟩, g3⟩ := Cc
  exact k9 p l e R s m args below meth c b κ D sc Tg H locs ls ⟨g1, g2, ⟨by omega, by omega, r3, r4⟩, g3⟩ F hn12 hW hL ho hS
def bset (p : Int → Prop) [DecidablePred p] (f : Int → Int) : Nat → Int
  | 0 => 0
  | n + 1 => or32 (bset p f n) (if p n then shl32 1 (f n) else 0)
theorem bset_t {p : Int → Prop} [DecidablePred p] {f : Int → Int} {i : Nat} (h : p i) : bset p f (i + 1) = or32 (bset p f i) (shl32 1 (f i)) := by
  show or32 _ (if p i then _ else _) = _
  rw [if_pos h]
theorem bset_f {p : Int → Prop} [DecidablePred p] {f : Int → Int} {i : Nat} (h : ¬ p i) : bset p f (i + 1) = or32 (bset p f i) 0 := by
  show or32 _ (if p i then _ else _) = _
  rw [if_neg h]
theorem bset_c {p q : Int → Prop} [DecidablePred p] [DecidablePred q] {f g : Int → Int} {n : Nat} (h : ∀ i : Nat, i < n → (p i ↔ q i)) (hf : ∀ i : Nat, i < n → p i → f i = g i) : bset p f n = bset q g n := by
  induction n with
  | zero => rfl
  | succ n ih =>
    show or32 _ (if p n then _ else _) = or32 _ (if q n then _ else _)
    rw [ih (fun i hi => h i (by omega)) (fun i hi => hf i (by omega))]
    by_cases hp : p n
    · rw [if_pos hp, if_pos ((h n (by omega)).mp hp), hf n (by omega) hp]
    · rw [if_neg hp, if_neg (fun q => hp ((h n (by omega)).mpr q))]
theorem l_there {x y z : Int} {M : Me} {n : Nat} (hn : M 430 14 = (n : Int)) (hn12 : n ≤ 12) : ∀ (m i : Nat), m + i = n → V kX11_there 0 0 2 none (Ex (some (0, bset (fun c : Int => M 430 (15 + 7 * c + 1) = 0) (fun c => c) n)) (Sf x y z) M) 4 [(1, 429), (0, bset (fun c : Int => M 430 (15 + 7 * c + 1) = 0) (fun c => c) i), (0, (i : Int))] [] (Sf x y z) M 0 0 := by
  intro m
  induction m with
  | zero =>
    intro i hi
    obtain rfl : i = n := by omega
    refine r_iload_n dX11_there_4 rfl ?_
    refine r_aload_n dX11_there_5 rfl (by decide) ?_
    refine r_getr (x := 430) dX11_there_6 flX11_7 sf429 (by decide) (by decide) rfl rfl ?_
    refine r_bipush dX11_there_9 (by decide) (by decide) ?_
    refine r_iald dX11_there_11 sf430 (by decide) (by omega) (by omega) (by decide) hn ?_
    refine r_icmp_ge (tgt := 39) dX11_there_12 (by decide) (fun h12 => ?_) (fun h12 => by exfalso; omega)
    refine r_iload_n dX11_there_39 rfl ?_
    refine r_iret dX11_there_40 rfl ?_
    exact Ex.rf
  | succ m ih =>
    intro i hi
    refine r_iload_n dX11_there_4 rfl ?_
    refine r_aload_n dX11_there_5 rfl (by decide) ?_
    refine r_getr (x := 430) dX11_there_6 flX11_7 sf429 (by decide) (by decide) rfl rfl ?_
    refine r_bipush dX11_there_9 (by decide) (by decide) ?_
    refine r_iald dX11_there_11 sf430 (by decide) (by omega) (by omega) (by decide) hn ?_
    refine r_icmp_ge (tgt := 39) dX11_there_12 (by decide) (fun h12 => by exfalso; omega) (fun h12 => ?_)
    refine r_iload_n dX11_there_15 rfl ?_
    refine r_aload_n dX11_there_16 rfl (by decide) ?_
    refine r_iload_n dX11_there_17 rfl ?_
    refine r_cv1 dX11_there_18 clX11_70 sf429 (by decide) (by decide) rfl (by first | decide | omega) (Nat.le_of_ble_eq_true rfl) (c_isThere (by omega)) ⟨Nat.zero_le _, Nat.zero_le _⟩ (fun _ => ?_)
    refine r_if_eq (tgt := 30) dX11_there_21 (by decide) (fun h21 => ?_) (fun h21 => ?_)
    · try have h21 := bi_0.mp h21
      refine r_iconst dX11_there_30 (by decide) ?_
      refine r_ior dX11_there_31 rfl ?_
      refine r_istore_n dX11_there_32 rfl (by decide) st1 ?_
      refine r_iinc dX11_there_33 rfl rfl (by decide) (w32_id (by omega)) st2 ?_
      refine r_goto (tgt := 4) dX11_there_36 (by decide) ?_
      first | exact V.al (by rw [bset_t (p := (fun c : Int => M 430 (15 + 7 * c + 1) = 0)) (f := fun c => c) h21]; rfl) (ih (i + 1) (by omega)) | exact V.al (by rw [bset_f (p := (fun c : Int => M 430 (15 + 7 * c + 1) = 0)) (f := fun c => c) h21]; rfl) (ih (i + 1) (by omega))
    · try have h21 := bi_1.mp h21
      refine r_iconst dX11_there_24 (by decide) ?_
      refine r_iload_n dX11_there_25 rfl ?_
      refine r_ishl dX11_there_26 rfl ?_
      refine r_goto (tgt := 31) dX11_there_27 (by decide) ?_
      refine r_ior dX11_there_31 rfl ?_
      refine r_istore_n dX11_there_32 rfl (by decide) st1 ?_
      refine r_iinc dX11_there_33 rfl rfl (by decide) (w32_id (by omega)) st2 ?_
      refine r_goto (tgt := 4) dX11_there_36 (by decide) ?_
      first | exact V.al (by rw [bset_t (p := (fun c : Int => M 430 (15 + 7 * c + 1) = 0)) (f := fun c => c) h21]; rfl) (ih (i + 1) (by omega)) | exact V.al (by rw [bset_f (p := (fun c : Int => M 430 (15 + 7 * c + 1) = 0)) (f := fun c => c) h21]; rfl) (ih (i + 1) (by omega))
theorem c_there {x y z : Int} {M : Me} {n : Nat} (hn : M 430 14 = (n : Int)) (hn12 : n ≤ 12) : Con kX11_there 2 0 0 [(1, 429)] (Sf x y z) M (Ex (some (0, bset (fun c : Int => M 430 (15 + 7 * c + 1) = 0) (fun c => c) n)) (Sf x y z) M) := by
  refine Con.ofV (al := [(1, 429), (9, 0), (9, 0)]) 2 (by decide) (Nat.le_of_ble_eq_true rfl) rfl ?_
  refine r_iconst dX11_there_0 (by decide) ?_
  refine r_istore_n dX11_there_1 rfl (by decide) st1 ?_
  refine r_iconst dX11_there_2 (by decide) ?_
  refine r_istore_n dX11_there_3 rfl (by decide) st2 ?_
  exact l_there hn hn12 n 0 (by omega)
theorem l_ownedBy {x y z : Int} {M : Me} {n : Nat} {p : Int} (hn : M 430 14 = (n : Int)) (hn12 : n ≤ 12) : ∀ (m i : Nat), m + i = n → V kX11_ownedBy 0 0 2 none (Ex (some (0, bset (fun c : Int => M 430 (15 + 7 * c + 2) = p) (fun c => c) n)) (Sf x y z) M) 4 [(1, 429), (0, p), (0, bset (fun c : Int => M 430 (15 + 7 * c + 2) = p) (fun c => c) i), (0, (i : Int))] [] (Sf x y z) M 0 0 := by
  intro m
  induction m with
  | zero =>
    intro i hi
    obtain rfl : i = n := by omega
    refine r_iload_n dX11_ownedBy_4 rfl ?_
    refine r_aload_n dX11_ownedBy_5 rfl (by decide) ?_
    refine r_getr (x := 430) dX11_ownedBy_6 flX11_7 sf429 (by decide) (by decide) rfl rfl ?_
    refine r_bipush dX11_ownedBy_9 (by decide) (by decide) ?_
    refine r_iald dX11_ownedBy_11 sf430 (by decide) (by omega) (by omega) (by decide) hn ?_
    refine r_icmp_ge (tgt := 41) dX11_ownedBy_12 (by decide) (fun h12 => ?_) (fun h12 => by exfalso; omega)
    refine r_iload_n dX11_ownedBy_41 rfl ?_
    refine r_iret dX11_ownedBy_42 rfl ?_
    exact Ex.rf
  | succ m ih =>
    intro i hi
    refine r_iload_n dX11_ownedBy_4 rfl ?_
    refine r_aload_n dX11_ownedBy_5 rfl (by decide) ?_
    refine r_getr (x := 430) dX11_ownedBy_6 flX11_7 sf429 (by decide) (by decide) rfl rfl ?_
    refine r_bipush dX11_ownedBy_9 (by decide) (by decide) ?_
    refine r_iald dX11_ownedBy_11 sf430 (by decide) (by omega) (by omega) (by decide) hn ?_
    refine r_icmp_ge (tgt := 41) dX11_ownedBy_12 (by decide) (fun h12 => by exfalso; omega) (fun h12 => ?_)
    refine r_iload_n dX11_ownedBy_15 rfl ?_
    refine r_aload_n dX11_ownedBy_16 rfl (by decide) ?_
    refine r_iload_n dX11_ownedBy_17 rfl ?_
    refine r_iconst dX11_ownedBy_18 (by decide) ?_
    refine r_cv2 dX11_ownedBy_19 clX11_66 sf429 (by decide) (by decide) rfl (by first | decide | omega) (Nat.le_of_ble_eq_true rfl) (c_get (by omega) (by decide)) ⟨Nat.zero_le _, Nat.zero_le _⟩ (fun _ => ?_)
    refine r_iload_n dX11_ownedBy_22 rfl ?_
    refine r_icmp_ne (tgt := 32) dX11_ownedBy_23 (by decide) (fun h23 => ?_) (fun h23 => ?_)
    · refine r_iconst dX11_ownedBy_32 (by decide) ?_
      refine r_ior dX11_ownedBy_33 rfl ?_
      refine r_istore_n dX11_ownedBy_34 rfl (by decide) st2 ?_
      refine r_iinc dX11_ownedBy_35 rfl rfl (by decide) (w32_id (by omega)) st3 ?_
      refine r_goto (tgt := 4) dX11_ownedBy_38 (by decide) ?_
      first | exact V.al (by rw [bset_t (p := (fun c : Int => M 430 (15 + 7 * c + 2) = p)) (f := fun c => c) h23]; rfl) (ih (i + 1) (by omega)) | exact V.al (by rw [bset_f (p := (fun c : Int => M 430 (15 + 7 * c + 2) = p)) (f := fun c => c) h23]; rfl) (ih (i + 1) (by omega))
    · refine r_iconst dX11_ownedBy_26 (by decide) ?_
      refine r_iload_n dX11_ownedBy_27 rfl ?_
      refine r_ishl dX11_ownedBy_28 rfl ?_
      refine r_goto (tgt := 33) dX11_ownedBy_29 (by decide) ?_
      refine r_ior dX11_ownedBy_33 rfl ?_
      refine r_istore_n dX11_ownedBy_34 rfl (by decide) st2 ?_
      refine r_iinc dX11_ownedBy_35 rfl rfl (by decide) (w32_id (by omega)) st3 ?_
      refine r_goto (tgt := 4) dX11_ownedBy_38 (by decide) ?_
      first | exact V.al (by rw [bset_t (p := (fun c : Int => M 430 (15 + 7 * c + 2) = p)) (f := fun c => c) h23]; rfl) (ih (i + 1) (by omega)) | exact V.al (by rw [bset_f (p := (fun c : Int => M 430 (15 + 7 * c + 2) = p)) (f := fun c => c) h23]; rfl) (ih (i + 1) (by omega))
theorem c_ownedBy {x y z : Int} {M : Me} {n : Nat} {p : Int} (hn : M 430 14 = (n : Int)) (hn12 : n ≤ 12) : Con kX11_ownedBy 2 0 0 [(1, 429), (0, p)] (Sf x y z) M (Ex (some (0, bset (fun c : Int => M 430 (15 + 7 * c + 2) = p) (fun c => c) n)) (Sf x y z) M) := by
  refine Con.ofV (al := [(1, 429), (0, p), (9, 0), (9, 0)]) 2 (by decide) (Nat.le_of_ble_eq_true rfl) rfl ?_
  refine r_iconst dX11_ownedBy_0 (by decide) ?_
  refine r_istore_n dX11_ownedBy_1 rfl (by decide) st2 ?_
  refine r_iconst dX11_ownedBy_2 (by decide) ?_
  refine r_istore_n dX11_ownedBy_3 rfl (by decide) st3 ?_
  exact l_ownedBy hn hn12 n 0 (by omega)
theorem m_isPerson {x y z : Int} {M : Me} {p : Int} (h0 : 0 ≤ M 430 0 ∧ M 430 0 ≤ 5) : Con kX11_isPerson 1 0 0 [(1, 429), (0, p)] (Sf x y z) M (Ex (some (0, bi (0 ≤ p ∧ p ≤ M 430 0 - 1))) (Sf x y z) M) := by
  refine Con.ofV (al := [(1, 429), (0, p)]) 0 (by decide) (Nat.le_of_ble_eq_true rfl) rfl ?_
  refine r_iload_n dX11_isPerson_0 rfl ?_
  refine r_iconst dX11_isPerson_1 (by decide) ?_
  refine r_aload_n dX11_isPerson_2 rfl (by decide) ?_
  refine r_getr (x := 430) dX11_isPerson_3 flX11_7 sf429 (by decide) (by decide) rfl rfl ?_
  refine r_iconst dX11_isPerson_6 (by decide) ?_
  refine r_iald dX11_isPerson_7 sf430 (by decide) (by omega) (by omega) (by decide) (by first | assumption | ((repeat (first | (apply rd_ne; · omega) | (apply rd_eq; · omega) | (apply rd_out; · omega) | (apply rd_in; · omega))); first | assumption | rfl)) ?_
  refine r_iconst dX11_isPerson_8 (by decide) ?_
  refine r_isub dX11_isPerson_9 (w32_id (by omega)) ?_
  refine r_cs3 dX11_isPerson_10 clX11_62 (by first | decide | omega) (Nat.le_of_ble_eq_true rfl) (c_isIn) ⟨Nat.zero_le _, Nat.zero_le _⟩ (fun _ => ?_)
  refine r_zret dX11_isPerson_13 rfl (bi_in) ?_
  exact Ex.rf
theorem m_isCrease {x y z : Int} {M : Me} {c : Int} (h14 : 0 ≤ M 430 14 ∧ M 430 14 ≤ 12) : Con kX11_isCrease 1 0 0 [(1, 429), (0, c)] (Sf x y z) M (Ex (some (0, bi (0 ≤ c ∧ c ≤ M 430 14 - 1))) (Sf x y z) M) := by
  refine Con.ofV (al := [(1, 429), (0, c)]) 0 (by decide) (Nat.le_of_ble_eq_true rfl) rfl ?_
  refine r_iload_n dX11_isCrease_0 rfl ?_
  refine r_iconst dX11_isCrease_1 (by decide) ?_
  refine r_aload_n dX11_isCrease_2 rfl (by decide) ?_
  refine r_getr (x := 430) dX11_isCrease_3 flX11_7 sf429 (by decide) (by decide) rfl rfl ?_
  refine r_bipush dX11_isCrease_6 (by decide) (by decide) ?_
  refine r_iald dX11_isCrease_8 sf430 (by decide) (by omega) (by omega) (by decide) (by first | assumption | ((repeat (first | (apply rd_ne; · omega) | (apply rd_eq; · omega) | (apply rd_out; · omega) | (apply rd_in; · omega))); first | assumption | rfl)) ?_
  refine r_iconst dX11_isCrease_9 (by decide) ?_
  refine r_isub dX11_isCrease_10 (w32_id (by omega)) ?_
  refine r_cs3 dX11_isCrease_11 clX11_62 (by first | decide | omega) (Nat.le_of_ble_eq_true rfl) (c_isIn) ⟨Nat.zero_le _, Nat.zero_le _⟩ (fun _ => ?_)
  refine r_zret dX11_isCrease_14 rfl (bi_in) ?_
  exact Ex.rf
theorem m_person {x y z : Int} {M : Me} {s c : Int} (h0 : 0 ≤ M 430 0 ∧ M 430 0 ≤ 5) : Con kX11_person 1 0 0 [(1, 429), (0, s), (0, c)] (Sf x y z) M (fun v9 S9 M9 => S9 = (Sf x y z) ∧ (((0 ≤ s ∧ s ≤ 2) ∧ (0 ≤ c ∧ c ≤ 9999) ∧ M 430 0 ≠ 5) ∧ v9 = some (0, M 430 0) ∧ M9 = up (up (up (up M 430 (99 + 3 * M 430 0) c) 430 (99 + 3 * M 430 0 + 1) s) 430 (99 + 3 * M 430 0 + 2) c) 430 0 (M 430 0 + 1) ∨ ¬ ((0 ≤ s ∧ s ≤ 2) ∧ (0 ≤ c ∧ c ≤ 9999) ∧ M 430 0 ≠ 5) ∧ v9 = some (0, -1) ∧ M9 = M)) := by
  refine Con.ofV (al := [(1, 429), (0, s), (0, c), (9, 0)]) 1 (by decide) (Nat.le_of_ble_eq_true rfl) rfl ?_
  refine r_iload_n dX11_person_0 rfl ?_
  refine r_iconst dX11_person_1 (by decide) ?_
  refine r_iconst dX11_person_2 (by decide) ?_
  refine r_cs3 dX11_person_3 clX11_62 (by first | decide | omega) (Nat.le_of_ble_eq_true rfl) (c_isIn) ⟨Nat.zero_le _, Nat.zero_le _⟩ (fun _ => ?_)
  refine r_if_eq (tgt := 30) dX11_person_6 (by decide) (fun h6 => ?_) (fun h6 => ?_)
  · try have h6 := bi_0.mp h6
    refine r_iconst dX11_person_30 (by decide) ?_
    refine r_iret dX11_person_31 rfl ?_
    first | exact ⟨rfl, Or.inl ⟨by omega, rfl, rfl⟩⟩ | exact ⟨rfl, Or.inr ⟨by omega, rfl, rfl⟩⟩
  · try have h6 := bi_1.mp h6
    refine r_iload_n dX11_person_9 rfl ?_
    refine r_iconst dX11_person_10 (by decide) ?_
    refine r_sipush dX11_person_11 (by decide) (by decide) ?_
    refine r_cs3 dX11_person_14 clX11_62 (by first | decide | omega) (Nat.le_of_ble_eq_true rfl) (c_isIn) ⟨Nat.zero_le _, Nat.zero_le _⟩ (fun _ => ?_)
    refine r_if_eq (tgt := 30) dX11_person_17 (by decide) (fun h17 => ?_) (fun h17 => ?_)
    · try have h17 := bi_0.mp h17
      refine r_iconst dX11_person_30 (by decide) ?_
      refine r_iret dX11_person_31 rfl ?_
      first | exact ⟨rfl, Or.inl ⟨by omega, rfl, rfl⟩⟩ | exact ⟨rfl, Or.inr ⟨by omega, rfl, rfl⟩⟩
    · try have h17 := bi_1.mp h17
      refine r_aload_n dX11_person_20 rfl (by decide) ?_
      refine r_getr (x := 430) dX11_person_21 flX11_7 sf429 (by decide) (by decide) rfl rfl ?_
      refine r_iconst dX11_person_24 (by decide) ?_
      refine r_iald dX11_person_25 sf430 (by decide) (by omega) (by omega) (by decide) (by first | assumption | ((repeat (first | (apply rd_ne; · omega) | (apply rd_eq; · omega) | (apply rd_out; · omega) | (apply rd_in; · omega))); first | assumption | rfl)) ?_
      refine r_iconst dX11_person_26 (by decide) ?_
      refine r_icmp_ne (tgt := 32) dX11_person_27 (by decide) (fun h27 => ?_) (fun h27 => ?_)
      · refine r_bipush dX11_person_32 (by decide) (by decide) ?_
        refine r_iconst dX11_person_34 (by decide) ?_
        refine r_aload_n dX11_person_35 rfl (by decide) ?_
        refine r_getr (x := 430) dX11_person_36 flX11_7 sf429 (by decide) (by decide) rfl rfl ?_
        refine r_iconst dX11_person_39 (by decide) ?_
        refine r_iald dX11_person_40 sf430 (by decide) (by omega) (by omega) (by decide) (by first | assumption | ((repeat (first | (apply rd_ne; · omega) | (apply rd_eq; · omega) | (apply rd_out; · omega) | (apply rd_in; · omega))); first | assumption | rfl)) ?_
        refine r_imul dX11_person_41 (w32_id (by omega)) ?_
        refine r_iadd dX11_person_42 (w32_id (by omega)) ?_
        refine r_istore_n dX11_person_43 rfl (by decide) st3 ?_
        refine r_aload_n dX11_person_44 rfl (by decide) ?_
        refine r_getr (x := 430) dX11_person_45 flX11_7 sf429 (by decide) (by decide) rfl rfl ?_
        refine r_iload_n dX11_person_48 rfl ?_
        refine r_iload_n dX11_person_49 rfl ?_
        refine r_iast dX11_person_50 sf430 (by decide) (by omega) (by omega) (by decide) rfl ?_
        refine r_aload_n dX11_person_51 rfl (by decide) ?_
        refine r_getr (x := 430) dX11_person_52 flX11_7 sf429 (by decide) (by decide) rfl rfl ?_
        refine r_iload_n dX11_person_55 rfl ?_
        refine r_iconst dX11_person_56 (by decide) ?_
        refine r_iadd dX11_person_57 (w32_id (by omega)) ?_
        refine r_iload_n dX11_person_58 rfl ?_
        refine r_iast dX11_person_59 sf430 (by decide) (by omega) (by omega) (by decide) rfl ?_
        refine r_aload_n dX11_person_60 rfl (by decide) ?_
        refine r_getr (x := 430) dX11_person_61 flX11_7 sf429 (by decide) (by decide) rfl rfl ?_
        refine r_iload_n dX11_person_64 rfl ?_
        refine r_iconst dX11_person_65 (by decide) ?_
        refine r_iadd dX11_person_66 (w32_id (by omega)) ?_
        refine r_iload_n dX11_person_67 rfl ?_
        refine r_iast dX11_person_68 sf430 (by decide) (by omega) (by omega) (by decide) rfl ?_
        refine r_aload_n dX11_person_69 rfl (by decide) ?_
        refine r_getr (x := 430) dX11_person_70 flX11_7 sf429 (by decide) (by decide) rfl rfl ?_
        refine r_iconst dX11_person_73 (by decide) ?_
        refine r_dup2 dX11_person_74 (by decide) (by decide) ?_
        refine r_iald dX11_person_75 sf430 (by decide) (by omega) (by omega) (by decide) (by first | assumption | ((repeat (first | (apply rd_ne; · omega) | (apply rd_eq; · omega) | (apply rd_out; · omega) | (apply rd_in; · omega))); first | assumption | rfl)) ?_
        refine r_iconst dX11_person_76 (by decide) ?_
        refine r_iadd dX11_person_77 (w32_id (by omega)) ?_
        refine r_iast dX11_person_78 sf430 (by decide) (by omega) (by omega) (by decide) rfl ?_
        refine r_aload_n dX11_person_79 rfl (by decide) ?_
        refine r_getr (x := 430) dX11_person_80 flX11_7 sf429 (by decide) (by decide) rfl rfl ?_
        refine r_iconst dX11_person_83 (by decide) ?_
        refine r_iald dX11_person_84 sf430 (by decide) (by omega) (by omega) (by decide) (by first | assumption | ((repeat (first | (apply rd_ne; · omega) | (apply rd_eq; · omega) | (apply rd_out; · omega) | (apply rd_in; · omega))); first | assumption | rfl)) ?_
        refine r_iconst dX11_person_85 (by decide) ?_
        refine r_isub dX11_person_86 (show w32 (M 430 0 + 1 - 1) = M 430 0 by rw [w32_id (by omega)]; omega) ?_
        refine r_iret dX11_person_87 rfl ?_
        first | exact ⟨rfl, Or.inl ⟨by omega, rfl, rfl⟩⟩ | exact ⟨rfl, Or.inr ⟨by omega, rfl, rfl⟩⟩
      · refine r_iconst dX11_person_30 (by decide) ?_
        refine r_iret dX11_person_31 rfl ?_
        first | exact ⟨rfl, Or.inl ⟨by omega, rfl, rfl⟩⟩ | exact ⟨rfl, Or.inr ⟨by omega, rfl, rfl⟩⟩
