/-- how many of a set lie within w years from one on -/
def ywA (M : Me) (n : Nat) (s w yr : Int) : Nat → Int := isum (fun c : Int => and32 (shr32 s c) 1 = 1 ∧ (yr ≤ M 430 (15 + 7 * c + 3) ∧ M 430 (15 + 7 * c + 3) ≤ yr + w - 1)) (fun _ => 1)
def flt (M : Me) (n : Nat) (s k w : Int) (Y : Nat) : Prop := ∀ yr : Nat, yr < Y → ywA M n s w yr n ≤ k
theorem l_flat1 {x y z : Int} {M : Me} {s k w : Int} {yr : Nat} (hyr : yr < 100) {n : Nat} (hn : M 430 14 = (n : Int)) (hn12 : n ≤ 12) (hw9 : 1 ≤ w ∧ w ≤ 100) {Q : Option AV → Sh → Me → Prop} (hc : V kX11_isFlat 0 0 1 none Q 74 [(1, 429), (0, s), (0, k), (0, w), (0, (yr : Int)), (0, ywA M n s w yr n), (9, 0)] [] (Sf x y z) M 0 0) : ∀ (m i : Nat), m + i = n → V kX11_isFlat 0 0 1 none Q 16 [(1, 429), (0, s), (0, k), (0, w), (0, (yr : Int)), (0, ywA M n s w yr i), (0, (i : Int))] [] (Sf x y z) M 0 0 := by
  intro m
  induction m with
  | zero =>
    intro i hi
    obtain rfl : i = n := by omega
    refine r_iload dX11_isFlat_16 rfl ?_
    refine r_aload_n dX11_isFlat_18 rfl (by decide) ?_
    refine r_getr (x := 430) dX11_isFlat_19 flX11_7 sf429 (by decide) (by decide) rfl rfl ?_
    refine r_bipush dX11_isFlat_22 (by decide) (by decide) ?_
    refine r_iald dX11_isFlat_24 sf430 (by decide) (by omega) (by omega) (by decide) hn ?_
    refine r_icmp_ge (tgt := 74) dX11_isFlat_25 (by decide) (fun h25 => ?_) (fun h25 => by exfalso; omega)
    exact wk6 hc
  | succ m ih =>
    intro i hi
    have hb := isum_b (p := (fun c : Int => and32 (shr32 s c) 1 = 1 ∧ ((yr : Int) ≤ M 430 (15 + 7 * c + 3) ∧ M 430 (15 + 7 * c + 3) ≤ (yr : Int) + w - 1))) (f := fun _ => 1) (b := 1) (n := i) (by decide) (fun j hj => by (try dsimp only); omega)
    have hb : -((i : Int) * 1) ≤ ywA M n s w yr i ∧ ywA M n s w yr i ≤ (i : Int) * 1 := hb
    refine r_iload dX11_isFlat_16 rfl ?_
    refine r_aload_n dX11_isFlat_18 rfl (by decide) ?_
    refine r_getr (x := 430) dX11_isFlat_19 flX11_7 sf429 (by decide) (by decide) rfl rfl ?_
    refine r_bipush dX11_isFlat_22 (by decide) (by decide) ?_
    refine r_iald dX11_isFlat_24 sf430 (by decide) (by omega) (by omega) (by decide) hn ?_
    refine r_icmp_ge (tgt := 74) dX11_isFlat_25 (by decide) (fun h25 => by exfalso; omega) (fun h25 => ?_)
    refine r_iload dX11_isFlat_28 rfl ?_
    refine r_iload_n dX11_isFlat_30 rfl ?_
    refine r_iload dX11_isFlat_31 rfl ?_
    refine r_cs2 dX11_isFlat_33 clX11_84 (by first | decide | omega) (Nat.le_of_ble_eq_true rfl) (c_has) ⟨Nat.zero_le _, Nat.zero_le _⟩ (fun _ => ?_)
    refine r_if_eq (tgt := 64) dX11_isFlat_36 (by decide) (fun h36 => ?_) (fun h36 => ?_)
    · try have h36 := bi_0.mp h36
      refine r_iconst dX11_isFlat_64 (by decide) ?_
      refine r_iadd dX11_isFlat_65 (w32_id (by omega)) ?_
      refine r_istore dX11_isFlat_66 rfl (by decide) st5 ?_
      refine r_iinc dX11_isFlat_68 rfl rfl (by decide) (w32_id (by omega)) st6 ?_
      refine r_goto (tgt := 16) dX11_isFlat_71 (by decide) ?_
      first | exact V.al (by rw [show ywA M n s w yr (i + 1) = _ from isum_t (p := (fun c : Int => and32 (shr32 s c) 1 = 1 ∧ ((yr : Int) ≤ M 430 (15 + 7 * c + 3) ∧ M 430 (15 + 7 * c + 3) ≤ (yr : Int) + w - 1))) (f := fun _ => 1) (by omega)]; rfl) (ih (i + 1) (by omega)) | exact V.al (by rw [show ywA M n s w yr (i + 1) = _ from isum_f (p := (fun c : Int => and32 (shr32 s c) 1 = 1 ∧ ((yr : Int) ≤ M 430 (15 + 7 * c + 3) ∧ M 430 (15 + 7 * c + 3) ≤ (yr : Int) + w - 1))) (f := fun _ => 1) (by omega)]; rfl) (ih (i + 1) (by omega))
    · try have h36 := bi_1.mp h36
      refine r_aload_n dX11_isFlat_39 rfl (by decide) ?_
      refine r_iload dX11_isFlat_40 rfl ?_
      refine r_iconst dX11_isFlat_42 (by decide) ?_
      refine r_cv2 dX11_isFlat_43 clX11_66 sf429 (by decide) (by decide) rfl (by first | decide | omega) (Nat.le_of_ble_eq_true rfl) (c_get (by omega) (by decide)) ⟨Nat.zero_le _, Nat.zero_le _⟩ (fun _ => ?_)
      refine r_iload dX11_isFlat_46 rfl ?_
      refine r_iload dX11_isFlat_48 rfl ?_
      refine r_iload_n dX11_isFlat_50 rfl ?_
      refine r_iadd dX11_isFlat_51 (w32_id (by omega)) ?_
      refine r_iconst dX11_isFlat_52 (by decide) ?_
      refine r_isub dX11_isFlat_53 (w32_id (by omega)) ?_
      refine r_cs3 dX11_isFlat_54 clX11_62 (by first | decide | omega) (Nat.le_of_ble_eq_true rfl) (c_isIn) ⟨Nat.zero_le _, Nat.zero_le _⟩ (fun _ => ?_)
      refine r_if_eq (tgt := 64) dX11_isFlat_57 (by decide) (fun h57 => ?_) (fun h57 => ?_)
      · try have h57 := bi_0.mp h57
        refine r_iconst dX11_isFlat_64 (by decide) ?_
        refine r_iadd dX11_isFlat_65 (w32_id (by omega)) ?_
        refine r_istore dX11_isFlat_66 rfl (by decide) st5 ?_
        refine r_iinc dX11_isFlat_68 rfl rfl (by decide) (w32_id (by omega)) st6 ?_
        refine r_goto (tgt := 16) dX11_isFlat_71 (by decide) ?_
        first | exact V.al (by rw [show ywA M n s w yr (i + 1) = _ from isum_t (p := (fun c : Int => and32 (shr32 s c) 1 = 1 ∧ ((yr : Int) ≤ M 430 (15 + 7 * c + 3) ∧ M 430 (15 + 7 * c + 3) ≤ (yr : Int) + w - 1))) (f := fun _ => 1) (by omega)]; rfl) (ih (i + 1) (by omega)) | exact V.al (by rw [show ywA M n s w yr (i + 1) = _ from isum_f (p := (fun c : Int => and32 (shr32 s c) 1 = 1 ∧ ((yr : Int) ≤ M 430 (15 + 7 * c + 3) ∧ M 430 (15 + 7 * c + 3) ≤ (yr : Int) + w - 1))) (f := fun _ => 1) (by omega)]; rfl) (ih (i + 1) (by omega))
      · try have h57 := bi_1.mp h57
        refine r_iconst dX11_isFlat_60 (by decide) ?_
        refine r_goto (tgt := 65) dX11_isFlat_61 (by decide) ?_
        refine r_iadd dX11_isFlat_65 (w32_id (by omega)) ?_
        refine r_istore dX11_isFlat_66 rfl (by decide) st5 ?_
        refine r_iinc dX11_isFlat_68 rfl rfl (by decide) (w32_id (by omega)) st6 ?_
        refine r_goto (tgt := 16) dX11_isFlat_71 (by decide) ?_
        first | exact V.al (by rw [show ywA M n s w yr (i + 1) = _ from isum_t (p := (fun c : Int => and32 (shr32 s c) 1 = 1 ∧ ((yr : Int) ≤ M 430 (15 + 7 * c + 3) ∧ M 430 (15 + 7 * c + 3) ≤ (yr : Int) + w - 1))) (f := fun _ => 1) (by omega)]; rfl) (ih (i + 1) (by omega)) | exact V.al (by rw [show ywA M n s w yr (i + 1) = _ from isum_f (p := (fun c : Int => and32 (shr32 s c) 1 = 1 ∧ ((yr : Int) ≤ M 430 (15 + 7 * c + 3) ∧ M 430 (15 + 7 * c + 3) ≤ (yr : Int) + w - 1))) (f := fun _ => 1) (by omega)]; rfl) (ih (i + 1) (by omega))
theorem l_flat2 {x y z : Int} {M : Me} {s k w : Int} {n : Nat} (hn : M 430 14 = (n : Int)) (hn12 : n ≤ 12) (hw9 : 1 ≤ w ∧ w ≤ 100) : ∀ (m i : Nat), m + i = 100 → flt M n s k w i → V kX11_isFlat 0 0 1 none (Ex (some (0, bic (flt M n s k w 100))) (Sf x y z) M) 3 [(1, 429), (0, s), (0, k), (0, w), (0, (i : Int)), (9, 0), (9, 0)] [] (Sf x y z) M 0 0 := by
  intro m
  induction m with
  | zero =>
    intro i hi hq
    obtain rfl : i = 100 := by omega
    refine r_iload dX11_isFlat_3 rfl ?_
    refine r_bipush dX11_isFlat_5 (by decide) (by decide) ?_
    refine r_icmp_ge (tgt := 88) dX11_isFlat_7 (by decide) (fun h7 => ?_) (fun h7 => by exfalso; omega)
    refine r_iconst dX11_isFlat_88 (by decide) ?_
    refine r_zret dX11_isFlat_89 rfl (by omega) ?_
    exact ⟨by rw [bic_t hq], rfl, rfl⟩
  | succ m ih =>
    intro i hi hq
    refine r_iload dX11_isFlat_3 rfl ?_
    refine r_bipush dX11_isFlat_5 (by decide) (by decide) ?_
    refine r_icmp_ge (tgt := 88) dX11_isFlat_7 (by decide) (fun h7 => by exfalso; omega) (fun h7 => ?_)
    refine r_iconst dX11_isFlat_10 (by decide) ?_
    refine r_istore dX11_isFlat_11 rfl (by decide) st5 ?_
    refine r_iconst dX11_isFlat_13 (by decide) ?_
    refine r_istore dX11_isFlat_14 rfl (by decide) st6 ?_
    refine l_flat1 (by omega) hn hn12 hw9 ?_ n 0 (by omega)
    refine r_iload dX11_isFlat_74 rfl ?_
    refine r_iload_n dX11_isFlat_76 rfl ?_
    refine r_icmp_le (tgt := 82) dX11_isFlat_77 (by decide) (fun h77 => ?_) (fun h77 => ?_)
    · refine r_iinc dX11_isFlat_82 rfl rfl (by decide) (w32_id (by omega)) st4 ?_
      refine r_goto (tgt := 3) dX11_isFlat_85 (by decide) ?_
      exact wk5 (ih (i + 1) (by omega) (fun yr h => (Nat.lt_or_ge yr i).elim (hq yr) (fun h2 => by rw [show yr = i by omega]; omega)))
    · refine r_iconst dX11_isFlat_80 (by decide) ?_
      refine r_zret dX11_isFlat_81 rfl (by omega) ?_
      exact ⟨by rw [bic_f (fun q => absurd (q i (by omega)) (by omega))], rfl, rfl⟩
theorem m_isFlat {x y z : Int} {M : Me} {s k w : Int} {n : Nat} (hn : M 430 14 = (n : Int)) (hn12 : n ≤ 12) (hw9 : 1 ≤ w ∧ w ≤ 100) : Con kX11_isFlat 1 0 0 [(1, 429), (0, s), (0, k), (0, w)] (Sf x y z) M (Ex (some (0, bic (flt M n s k w 100))) (Sf x y z) M) := by
  refine Con.ofV (al := [(1, 429), (0, s), (0, k), (0, w), (9, 0), (9, 0), (9, 0)]) 3 (by decide) (Nat.le_of_ble_eq_true rfl) rfl ?_
  refine r_iconst dX11_isFlat_0 (by decide) ?_
  refine r_istore dX11_isFlat_1 rfl (by decide) st4 ?_
  exact l_flat2 hn hn12 hw9 100 0 (by omega) (fun yr h => absurd h (by omega))
def fpp (M : Me) (n : Nat) (al k w s f : Int) : Prop := s ≠ 0 ∧ and32 s (xor32 al (-1)) = 0 ∧ pcn f.toNat < pcn s.toNat ∧ flt M n s k w 100
noncomputable def fpf (M : Me) (n : Nat) (al k w : Int) : Nat → Int
  | 0 => 0
  | s + 1 => @ite Int (fpp M n al k w s (fpf M n al k w s)) (Classical.propDecidable _) s (fpf M n al k w s)
theorem fpf_t {M : Me} {n s : Nat} {al k w : Int} (h : fpp M n al k w s (fpf M n al k w s)) : fpf M n al k w (s + 1) = s := cit_t h
theorem fpf_f {M : Me} {n s : Nat} {al k w : Int} (h : ¬ fpp M n al k w s (fpf M n al k w s)) : fpf M n al k w (s + 1) = fpf M n al k w s := cit_f h
theorem fpf_1 {M : Me} {n : Nat} {al k w : Int} : fpf M n al k w 1 = 0 := fpf_f (fun q => q.1 rfl)
theorem fpf_lt {M : Me} {n : Nat} {al k w : Int} : ∀ s : Nat, 0 ≤ fpf M n al k w s ∧ fpf M n al k w s ≤ s := by
  intro s
  induction s with
  | zero => exact (show 0 ≤ (0 : Int) ∧ (0 : Int) ≤ ((0 : Nat) : Int) by omega)
  | succ s ih =>
    by_cases h : fpp M n al k w s (fpf M n al k w s)
    · rw [fpf_t h]; omega
    · rw [fpf_f h]; omega
def ownA (M : Me) (n : Nat) (p : Int) : Int := and32 (bset (fun c : Int => M 430 (15 + 7 * c + 2) = p) (fun c => c) n) (bset (fun c : Int => M 430 (15 + 7 * c + 1) = 0) (fun c => c) n)
theorem l_flat {x y z : Int} {M : Me} {p k w : Int} {n : Nat} (hn : M 430 14 = (n : Int)) (hn12 : n ≤ 12) (hw9 : 1 ≤ w ∧ w ≤ 100) {al : Nat} (hal2 : al < 4096) : ∀ (m i : Nat), m + i = al + 1 → 1 ≤ i → V kX11_flat 0 0 3 none (Ex (some (0, fpf M n al k w (al + 1))) (Sf x y z) M) 48 [(1, 429), (0, p), (0, k), (0, w), (0, (al : Int)), (0, fpf M n al k w i), (0, (i : Int))] [] (Sf x y z) M 0 0 := by
  intro m
  induction m with
  | zero =>
    intro i hi h1
    have hi2 : i = al + 1 := by omega
    subst hi2
    refine r_iload dX11_flat_48 rfl ?_
    refine r_iload dX11_flat_50 rfl ?_
    refine r_icmp_gt (tgt := 99) dX11_flat_52 (by decide) (fun h52 => ?_) (fun h52 => by exfalso; omega)
    refine r_iload dX11_flat_99 rfl ?_
    refine r_iret dX11_flat_101 rfl ?_
    exact Ex.rf
  | succ m ih =>
    intro i hi h1
    have hb := fpf_lt (M := M) (n := n) (al := al) (k := k) (w := w) i
    refine r_iload dX11_flat_48 rfl ?_
    refine r_iload dX11_flat_50 rfl ?_
    refine r_icmp_gt (tgt := 99) dX11_flat_52 (by decide) (fun h52 => by exfalso; omega) (fun h52 => ?_)
    refine r_iload dX11_flat_55 rfl ?_
    refine r_iload dX11_flat_57 rfl ?_
    refine r_iconst dX11_flat_59 (by decide) ?_
    refine r_ixor dX11_flat_60 rfl ?_
    refine r_iand dX11_flat_61 rfl ?_
    refine r_if_ne (tgt := 93) dX11_flat_62 (by decide) (fun h62 => ?_) (fun h62 => ?_)
    · refine r_iinc dX11_flat_93 rfl rfl (by decide) (w32_id (by omega)) st6 ?_
      refine r_goto (tgt := 48) dX11_flat_96 (by decide) ?_
      first | exact V.al (by rw [fpf_f (fun q => absurd q.2.1 (by assumption))]; rfl) (ih (i + 1) (by omega) (by omega)) | exact V.al (by rw [fpf_f (fun q => absurd q.2.2.1 (by omega))]; rfl) (ih (i + 1) (by omega) (by omega)) | exact V.al (by rw [fpf_f (fun q => absurd q.2.2.2 (by assumption))]; rfl) (ih (i + 1) (by omega) (by omega)) | exact V.al (by rw [fpf_t ⟨by omega, by assumption, by omega, by assumption⟩]; rfl) (ih (i + 1) (by omega) (by omega))
    · refine r_iload dX11_flat_65 rfl ?_
      refine r_cs1 dX11_flat_67 clX11_302 (by first | decide | omega) (Nat.le_of_ble_eq_true rfl) (m_bits (by omega) (by omega)) ⟨Nat.zero_le _, Nat.zero_le _⟩ (fun _ => ?_)
      refine r_iload dX11_flat_70 rfl ?_
      refine r_cs1 dX11_flat_72 clX11_302 (by first | decide | omega) (Nat.le_of_ble_eq_true rfl) (m_bits (by omega) (by omega)) ⟨Nat.zero_le _, Nat.zero_le _⟩ (fun _ => ?_)
      refine r_icmp_le (tgt := 93) dX11_flat_75 (by decide) (fun h75 => ?_) (fun h75 => ?_)
      · refine r_iinc dX11_flat_93 rfl rfl (by decide) (w32_id (by omega)) st6 ?_
        refine r_goto (tgt := 48) dX11_flat_96 (by decide) ?_
        first | exact V.al (by rw [fpf_f (fun q => absurd q.2.1 (by assumption))]; rfl) (ih (i + 1) (by omega) (by omega)) | exact V.al (by rw [fpf_f (fun q => absurd q.2.2.1 (by omega))]; rfl) (ih (i + 1) (by omega) (by omega)) | exact V.al (by rw [fpf_f (fun q => absurd q.2.2.2 (by assumption))]; rfl) (ih (i + 1) (by omega) (by omega)) | exact V.al (by rw [fpf_t ⟨by omega, by assumption, by omega, by assumption⟩]; rfl) (ih (i + 1) (by omega) (by omega))
      · refine r_aload_n dX11_flat_78 rfl (by decide) ?_
        refine r_iload dX11_flat_79 rfl ?_
        refine r_iload_n dX11_flat_81 rfl ?_
        refine r_iload_n dX11_flat_82 rfl ?_
        refine r_cv3 dX11_flat_83 clX11_412 sf429 (by decide) (by decide) rfl (by first | decide | omega) (Nat.le_of_ble_eq_true rfl) (m_isFlat hn hn12 hw9) ⟨Nat.zero_le _, Nat.zero_le _⟩ (fun _ => ?_)
        refine r_if_eq (tgt := 93) dX11_flat_86 (by decide) (fun h86 => ?_) (fun h86 => ?_)
        · try have h86 := bic_1 h86
          try have h86 := bic_0 h86
          refine r_iinc dX11_flat_93 rfl rfl (by decide) (w32_id (by omega)) st6 ?_
          refine r_goto (tgt := 48) dX11_flat_96 (by decide) ?_
          first | exact V.al (by rw [fpf_f (fun q => absurd q.2.1 (by assumption))]; rfl) (ih (i + 1) (by omega) (by omega)) | exact V.al (by rw [fpf_f (fun q => absurd q.2.2.1 (by omega))]; rfl) (ih (i + 1) (by omega) (by omega)) | exact V.al (by rw [fpf_f (fun q => absurd q.2.2.2 (by assumption))]; rfl) (ih (i + 1) (by omega) (by omega)) | exact V.al (by rw [fpf_t ⟨by omega, by assumption, by omega, by assumption⟩]; rfl) (ih (i + 1) (by omega) (by omega))
        · try have h86 := bic_1 h86
          try have h86 := bic_0 h86
          refine r_iload dX11_flat_89 rfl ?_
          refine r_istore dX11_flat_91 rfl (by decide) st5 ?_
          refine r_iinc dX11_flat_93 rfl rfl (by decide) (w32_id (by omega)) st6 ?_
          refine r_goto (tgt := 48) dX11_flat_96 (by decide) ?_
          first | exact V.al (by rw [fpf_f (fun q => absurd q.2.1 (by assumption))]; rfl) (ih (i + 1) (by omega) (by omega)) | exact V.al (by rw [fpf_f (fun q => absurd q.2.2.1 (by omega))]; rfl) (ih (i + 1) (by omega) (by omega)) | exact V.al (by rw [fpf_f (fun q => absurd q.2.2.2 (by assumption))]; rfl) (ih (i + 1) (by omega) (by omega)) | exact V.al (by rw [fpf_t ⟨by omega, by assumption, by omega, by assumption⟩]; rfl) (ih (i + 1) (by omega) (by omega))
theorem m_flat {x y z : Int} {M : Me} {p k w : Int} (h0 : 0 ≤ M 430 0 ∧ M 430 0 ≤ 5) {n : Nat} (hn : M 430 14 = (n : Int)) (hn12 : n ≤ 12) {al : Nat} (hal : ownA M n p = (al : Int)) (hal2 : al < 4096) : Con kX11_flat 3 0 0 [(1, 429), (0, p), (0, k), (0, w)] (Sf x y z) M (fun v9 S9 M9 => S9 = (Sf x y z) ∧ (((0 ≤ p ∧ p ≤ M 430 0 - 1) ∧ (0 ≤ k ∧ k ≤ 12) ∧ (1 ≤ w ∧ w ≤ 100)) ∧ v9 = some (0, fpf M n al k w (al + 1)) ∧ M9 = M ∨ (¬ ((0 ≤ p ∧ p ≤ M 430 0 - 1) ∧ (0 ≤ k ∧ k ≤ 12) ∧ (1 ≤ w ∧ w ≤ 100))) ∧ v9 = some (0, -1) ∧ M9 = M)) := by
  refine Con.ofV (al := [(1, 429), (0, p), (0, k), (0, w), (9, 0), (9, 0), (9, 0)]) 3 (by decide) (Nat.le_of_ble_eq_true rfl) rfl ?_
  refine r_aload_n dX11_flat_0 rfl (by decide) ?_
  refine r_iload_n dX11_flat_1 rfl ?_
  refine r_cv1 dX11_flat_2 clX11_74 sf429 (by decide) (by decide) rfl (by first | decide | omega) (Nat.le_of_ble_eq_true rfl) (m_isPerson h0) ⟨Nat.zero_le _, Nat.zero_le _⟩ (fun _ => ?_)
  refine r_if_eq (tgt := 28) dX11_flat_5 (by decide) (fun h5 => ?_) (fun h5 => ?_)
  · try have h5 := bi_0.mp h5
    refine r_iconst dX11_flat_28 (by decide) ?_
    refine r_iret dX11_flat_29 rfl ?_
    first | exact ⟨rfl, Or.inl ⟨by omega, rfl, rfl⟩⟩ | exact ⟨rfl, Or.inr (⟨by omega, rfl, rfl⟩)⟩
  · try have h5 := bi_1.mp h5
    refine r_iload_n dX11_flat_8 rfl ?_
    refine r_iconst dX11_flat_9 (by decide) ?_
    refine r_bipush dX11_flat_10 (by decide) (by decide) ?_
    refine r_cs3 dX11_flat_12 clX11_62 (by first | decide | omega) (Nat.le_of_ble_eq_true rfl) (c_isIn) ⟨Nat.zero_le _, Nat.zero_le _⟩ (fun _ => ?_)
    refine r_if_eq (tgt := 28) dX11_flat_15 (by decide) (fun h15 => ?_) (fun h15 => ?_)
    · try have h15 := bi_0.mp h15
      refine r_iconst dX11_flat_28 (by decide) ?_
      refine r_iret dX11_flat_29 rfl ?_
      first | exact ⟨rfl, Or.inl ⟨by omega, rfl, rfl⟩⟩ | exact ⟨rfl, Or.inr (⟨by omega, rfl, rfl⟩)⟩
    · try have h15 := bi_1.mp h15
      refine r_iload_n dX11_flat_18 rfl ?_
      refine r_iconst dX11_flat_19 (by decide) ?_
      refine r_bipush dX11_flat_20 (by decide) (by decide) ?_
      refine r_cs3 dX11_flat_22 clX11_62 (by first | decide | omega) (Nat.le_of_ble_eq_true rfl) (c_isIn) ⟨Nat.zero_le _, Nat.zero_le _⟩ (fun _ => ?_)
      refine r_if_ne (tgt := 30) dX11_flat_25 (by decide) (fun h25 => ?_) (fun h25 => ?_)
      · try have h25 := bi_1.mp h25
        refine r_aload_n dX11_flat_30 rfl (by decide) ?_
        refine r_iload_n dX11_flat_31 rfl ?_
        refine r_cv1 dX11_flat_32 clX11_387 sf429 (by decide) (by decide) rfl (by first | decide | omega) (Nat.le_of_ble_eq_true rfl) (c_ownedBy hn hn12) ⟨Nat.zero_le _, Nat.zero_le _⟩ (fun _ => ?_)
        refine r_aload_n dX11_flat_35 rfl (by decide) ?_
        refine r_cv0 dX11_flat_36 clX11_336 sf429 (by decide) (by decide) rfl (by first | decide | omega) (Nat.le_of_ble_eq_true rfl) (c_there hn hn12) ⟨Nat.zero_le _, Nat.zero_le _⟩ (fun _ => ?_)
        refine r_iand dX11_flat_39 rfl ?_
        rw [show and32 (bset (fun c : Int => M 430 (15 + 7 * c + 2) = p) (fun c => c) n) (bset (fun c : Int => M 430 (15 + 7 * c + 1) = 0) (fun c => c) n) = (al : Int) from hal]
        refine r_istore dX11_flat_40 rfl (by decide) st4 ?_
        refine r_iconst dX11_flat_42 (by decide) ?_
        refine r_istore dX11_flat_43 rfl (by decide) st5 ?_
        refine r_iconst dX11_flat_45 (by decide) ?_
        refine r_istore dX11_flat_46 rfl (by decide) st6 ?_
        exact V.mono (V.al (by rw [fpf_1]; rfl) (l_flat hn hn12 (by omega) hal2 al 1 (by omega) (by omega))) (fun v9 S9 M9 h => ⟨h.2.1, Or.inl ⟨by omega, h.1, h.2.2⟩⟩)
      · try have h25 := bi_0.mp h25
        refine r_iconst dX11_flat_28 (by decide) ?_
        refine r_iret dX11_flat_29 rfl ?_
        first | exact ⟨rfl, Or.inl ⟨by omega, rfl, rfl⟩⟩ | exact ⟨rfl, Or.inr (⟨by omega, rfl, rfl⟩)⟩
def tkA (M : Me) (pr : Int) : Nat → Int := isum (fun k : Int => pr ≤ M 430 (168 + k)) (fun _ => pr)
/-- the best price, and what it takes -/
def prA (M : Me) (n : Nat) : Nat → Int × Int
  | 0 => (0, 0)
  | p + 1 => if (prA M n p).2 < tkA M p n then ((p : Int), tkA M p n) else prA M n p
theorem prA_t {M : Me} {n p : Nat} (h : (prA M n p).2 < tkA M p n) : prA M n (p + 1) = ((p : Int), tkA M p n) := if_pos h
theorem prA_f {M : Me} {n p : Nat} (h : ¬ (prA M n p).2 < tkA M p n) : prA M n (p + 1) = prA M n p := if_neg h
theorem l_price1 {x y z : Int} {M : Me} {w be mo : Int} {pr : Nat} (hpr : pr < 1000) {n : Nat} (hn : M 430 8 = (n : Int)) (hn8 : n ≤ 8) {Q : Option AV → Sh → Me → Prop} (hc : V kX11_price 0 0 0 none Q 66 [(1, 429), (0, w), (0, be), (0, mo), (0, (pr : Int)), (0, tkA M pr n), (9, 0)] [] (Sf x y z) M 0 0) : ∀ (m i : Nat), m + i = n → V kX11_price 0 0 0 none Q 21 [(1, 429), (0, w), (0, be), (0, mo), (0, (pr : Int)), (0, tkA M pr i), (0, (i : Int))] [] (Sf x y z) M 0 0 := by
  intro m
  induction m with
  | zero =>
    intro i hi
    obtain rfl : i = n := by omega
    refine r_iload dX11_price_21 rfl ?_
    refine r_aload_n dX11_price_23 rfl (by decide) ?_
    refine r_getr (x := 430) dX11_price_24 flX11_7 sf429 (by decide) (by decide) rfl rfl ?_
    refine r_bipush dX11_price_27 (by decide) (by decide) ?_
    refine r_iald dX11_price_29 sf430 (by decide) (by omega) (by omega) (by decide) hn ?_
    refine r_icmp_ge (tgt := 66) dX11_price_30 (by decide) (fun h30 => ?_) (fun h30 => by exfalso; omega)
    exact wk6 hc
  | succ m ih =>
    intro i hi
    have hb := isum_b (p := (fun k : Int => (pr : Int) ≤ M 430 (168 + k))) (f := fun _ => (pr : Int)) (b := 1000) (n := i) (by decide) (fun j hj => by (try dsimp only); omega)
    have hb : -((i : Int) * 1000) ≤ tkA M pr i ∧ tkA M pr i ≤ (i : Int) * 1000 := hb
    refine r_iload dX11_price_21 rfl ?_
    refine r_aload_n dX11_price_23 rfl (by decide) ?_
    refine r_getr (x := 430) dX11_price_24 flX11_7 sf429 (by decide) (by decide) rfl rfl ?_
    refine r_bipush dX11_price_27 (by decide) (by decide) ?_
    refine r_iald dX11_price_29 sf430 (by decide) (by omega) (by omega) (by decide) hn ?_
    refine r_icmp_ge (tgt := 66) dX11_price_30 (by decide) (fun h30 => by exfalso; omega) (fun h30 => ?_)
    refine r_iload dX11_price_33 rfl ?_
    refine r_aload_n dX11_price_35 rfl (by decide) ?_
    refine r_getr (x := 430) dX11_price_36 flX11_7 sf429 (by decide) (by decide) rfl rfl ?_
    refine r_sipush dX11_price_39 (by decide) (by decide) ?_
    refine r_iload dX11_price_42 rfl ?_
    refine r_iadd dX11_price_44 (w32_id (by omega)) ?_
    refine r_iald dX11_price_45 sf430 (by decide) (by omega) (by omega) (by decide) (by first | assumption | ((repeat (first | (apply rd_ne; · omega) | (apply rd_eq; · omega) | (apply rd_out; · omega) | (apply rd_in; · omega))); first | assumption | rfl)) ?_
    refine r_iload dX11_price_46 rfl ?_
    refine r_icmp_lt (tgt := 56) dX11_price_48 (by decide) (fun h48 => ?_) (fun h48 => ?_)
    · refine r_iconst dX11_price_56 (by decide) ?_
      refine r_iadd dX11_price_57 (w32_id (by omega)) ?_
      refine r_istore dX11_price_58 rfl (by decide) st5 ?_
      refine r_iinc dX11_price_60 rfl rfl (by decide) (w32_id (by omega)) st6 ?_
      refine r_goto (tgt := 21) dX11_price_63 (by decide) ?_
      first | exact V.al (by rw [show tkA M pr (i + 1) = _ from isum_t (p := (fun k : Int => (pr : Int) ≤ M 430 (168 + k))) (f := fun _ => (pr : Int)) (by omega)]; rfl) (ih (i + 1) (by omega)) | exact V.al (by rw [show tkA M pr (i + 1) = _ from isum_f (p := (fun k : Int => (pr : Int) ≤ M 430 (168 + k))) (f := fun _ => (pr : Int)) (by omega)]; rfl) (ih (i + 1) (by omega))
    · refine r_iload dX11_price_51 rfl ?_
      refine r_goto (tgt := 57) dX11_price_53 (by decide) ?_
      refine r_iadd dX11_price_57 (w32_id (by omega)) ?_
      refine r_istore dX11_price_58 rfl (by decide) st5 ?_
      refine r_iinc dX11_price_60 rfl rfl (by decide) (w32_id (by omega)) st6 ?_
      refine r_goto (tgt := 21) dX11_price_63 (by decide) ?_
      first | exact V.al (by rw [show tkA M pr (i + 1) = _ from isum_t (p := (fun k : Int => (pr : Int) ≤ M 430 (168 + k))) (f := fun _ => (pr : Int)) (by omega)]; rfl) (ih (i + 1) (by omega)) | exact V.al (by rw [show tkA M pr (i + 1) = _ from isum_f (p := (fun k : Int => (pr : Int) ≤ M 430 (168 + k))) (f := fun _ => (pr : Int)) (by omega)]; rfl) (ih (i + 1) (by omega))
theorem l_price2 {x y z : Int} {M : Me} {w : Int} {n : Nat} (hn : M 430 8 = (n : Int)) (hn8 : n ≤ 8) : ∀ (m i : Nat), m + i = 1000 → V kX11_price 0 0 0 none (fun v9 S9 M9 => S9 = (Sf x y z) ∧ ((w ≠ 0) ∧ v9 = some (0, (prA M n 1000).2) ∧ M9 = M ∨ (w = 0) ∧ v9 = some (0, (prA M n 1000).1) ∧ M9 = M)) 7 [(1, 429), (0, w), (0, (prA M n i).1), (0, (prA M n i).2), (0, (i : Int)), (9, 0), (9, 0)] [] (Sf x y z) M 0 0 := by
  intro m
  induction m with
  | zero =>
    intro i hi
    obtain rfl : i = 1000 := by omega
    refine r_iload dX11_price_7 rfl ?_
    refine r_sipush dX11_price_9 (by decide) (by decide) ?_
    refine r_icmp_ge (tgt := 87) dX11_price_12 (by decide) (fun h12 => ?_) (fun h12 => by exfalso; omega)
    refine r_iload_n dX11_price_87 rfl ?_
    refine r_if_eq (tgt := 95) dX11_price_88 (by decide) (fun h88 => ?_) (fun h88 => ?_)
    · try have h88 := bi_0.mp h88
      refine r_iload_n dX11_price_95 rfl ?_
      refine r_iret dX11_price_96 rfl ?_
      first | exact ⟨rfl, Or.inl ⟨by omega, rfl, rfl⟩⟩ | exact ⟨rfl, Or.inr (⟨by omega, rfl, rfl⟩)⟩
    · try have h88 := bi_1.mp h88
      refine r_iload_n dX11_price_91 rfl ?_
      refine r_goto (tgt := 96) dX11_price_92 (by decide) ?_
      refine r_iret dX11_price_96 rfl ?_
      first | exact ⟨rfl, Or.inl ⟨by omega, rfl, rfl⟩⟩ | exact ⟨rfl, Or.inr (⟨by omega, rfl, rfl⟩)⟩
  | succ m ih =>
    intro i hi
    refine r_iload dX11_price_7 rfl ?_
    refine r_sipush dX11_price_9 (by decide) (by decide) ?_
    refine r_icmp_ge (tgt := 87) dX11_price_12 (by decide) (fun h12 => by exfalso; omega) (fun h12 => ?_)
    refine r_iconst dX11_price_15 (by decide) ?_
    refine r_istore dX11_price_16 rfl (by decide) st5 ?_
    refine r_iconst dX11_price_18 (by decide) ?_
    refine r_istore dX11_price_19 rfl (by decide) st6 ?_
    refine l_price1 (by omega) hn hn8 ?_ n 0 (by omega)
    refine r_iload dX11_price_66 rfl ?_
    refine r_iload_n dX11_price_68 rfl ?_
    refine r_icmp_gt (tgt := 75) dX11_price_69 (by decide) (fun h69 => ?_) (fun h69 => ?_)
    · refine r_iload dX11_price_75 rfl ?_
      refine r_istore_n dX11_price_77 rfl (by decide) st3 ?_
      refine r_iload dX11_price_78 rfl ?_
      refine r_istore_n dX11_price_80 rfl (by decide) st2 ?_
      refine r_iinc dX11_price_81 rfl rfl (by decide) (w32_id (by omega)) st4 ?_
      refine r_goto (tgt := 7) dX11_price_84 (by decide) ?_
      first | exact wk5 (V.al (by rw [prA_t (by omega)]; rfl) (ih (i + 1) (by omega))) | exact wk5 (V.al (by rw [prA_f (by omega)]; rfl) (ih (i + 1) (by omega)))
    · refine r_goto (tgt := 81) dX11_price_72 (by decide) ?_
      refine r_iinc dX11_price_81 rfl rfl (by decide) (w32_id (by omega)) st4 ?_
      refine r_goto (tgt := 7) dX11_price_84 (by decide) ?_
      first | exact wk5 (V.al (by rw [prA_t (by omega)]; rfl) (ih (i + 1) (by omega))) | exact wk5 (V.al (by rw [prA_f (by omega)]; rfl) (ih (i + 1) (by omega)))
theorem m_price {x y z : Int} {M : Me} {w : Int} {n : Nat} (hn : M 430 8 = (n : Int)) (hn8 : n ≤ 8) : Con kX11_price 0 0 0 [(1, 429), (0, w)] (Sf x y z) M (fun v9 S9 M9 => S9 = (Sf x y z) ∧ ((w ≠ 0) ∧ v9 = some (0, (prA M n 1000).2) ∧ M9 = M ∨ (w = 0) ∧ v9 = some (0, (prA M n 1000).1) ∧ M9 = M)) := by
  refine Con.ofV (al := [(1, 429), (0, w), (9, 0), (9, 0), (9, 0), (9, 0), (9, 0)]) 5 (by decide) (Nat.le_of_ble_eq_true rfl) rfl ?_
  refine r_iconst dX11_price_0 (by decide) ?_
  refine r_istore_n dX11_price_1 rfl (by decide) st2 ?_
  refine r_iconst dX11_price_2 (by decide) ?_
  refine r_istore_n dX11_price_3 rfl (by decide) st3 ?_
  refine r_iconst dX11_price_4 (by decide) ?_
  refine r_istore dX11_price_5 rfl (by decide) st4 ?_
  exact l_price2 hn hn8 1000 0 (by omega)
