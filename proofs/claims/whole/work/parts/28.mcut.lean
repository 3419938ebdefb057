noncomputable def bic (p : Prop) : Int := @ite Int p (Classical.propDecidable p) 1 0
theorem cit_t {p : Prop} (h : p) {a c : Int} : @ite Int p (Classical.propDecidable p) a c = a := @if_pos p (Classical.propDecidable p) h Int a c
theorem cit_f {p : Prop} (h : ¬ p) {a c : Int} : @ite Int p (Classical.propDecidable p) a c = c := @if_neg p (Classical.propDecidable p) h Int a c
theorem bic_t {p : Prop} (h : p) : bic p = 1 := by unfold bic; exact if_pos h
theorem bic_f {p : Prop} (h : ¬ p) : bic p = 0 := by unfold bic; exact if_neg h
theorem bic_0 {p : Prop} (h : bic p = 0) : ¬ p := fun q => by rw [bic_t q] at h; cases h
theorem bic_1 {p : Prop} (h : bic p ≠ 0) : p := Classical.byContradiction fun q => h (bic_f q)
/-- how many bits of the lowest twelve -/
def pcn (x : Nat) : Nat := (List.range 12).foldl (fun s j => s + x / 2 ^ j % 2) 0
theorem pcn_a : (List.range 4096).all (fun x => decide (pcn x ≤ 12) && (decide (x = 0) || (decide ((x &&& (x - 1)) < 4096) && decide (pcn (x &&& (x - 1)) + 1 = pcn x)))) = true := by decide +kernel
theorem pcn_s : ∀ x : Nat, x < 4096 → x ≠ 0 → (x &&& (x - 1)) < 4096 ∧ pcn (x &&& (x - 1)) + 1 = pcn x := by
  intro x hx h0
  have h := List.all_eq_true.mp pcn_a x (List.mem_range.mpr hx)
  simp only [Bool.and_eq_true, Bool.or_eq_true, decide_eq_true_eq] at h
  exact h.2.resolve_left h0
theorem pcn_le : ∀ x : Nat, x < 4096 → pcn x ≤ 12 := by
  intro x hx
  have h := List.all_eq_true.mp pcn_a x (List.mem_range.mpr hx)
  simp only [Bool.and_eq_true, decide_eq_true_eq] at h
  exact h.1
theorem and_pred {x : Int} {y : Int} (h0 : 0 < x) (h : x < 4096) (hy : y = x - 1) : and32 x y = ((x.toNat &&& (x.toNat - 1) : Nat) : Int) := by
  subst hy
  obtain ⟨n, rfl⟩ : ∃ n : Nat, x = (n : Int) := ⟨x.toNat, by omega⟩
  have e : (n : Int) - 1 = ((n - 1 : Nat) : Int) := by omega
  rw [e, and32_n (by omega) (by omega)]; rfl
theorem l_bits {S : Sh} {M : Me} {s : Int} : ∀ (m : Nat) (x k : Nat), x < 4096 → pcn x = m → k ≤ 12 → m + k ≤ 12 → V kX11_bits 0 0 0 none (Ex (some (0, ((m + k : Nat) : Int))) S M) 4 [(0, s), (0, (k : Int)), (0, (x : Int))] [] S M 0 0 := by
  intro m
  induction m with
  | zero =>
    intro x k hx hp hk hmk
    have hx0 : x = 0 := Classical.byContradiction fun q => by have := (pcn_s x hx q).2; omega
    subst hx0
    refine r_iload_n dX11_bits_4 rfl ?_
    refine r_if_eq (tgt := 20) dX11_bits_5 (by decide) (fun h5 => ?_) (fun h5 => by exfalso; omega)
    refine r_iload_n dX11_bits_20 rfl ?_
    refine r_iret dX11_bits_21 rfl ?_
    exact ⟨by rw [Nat.zero_add], rfl, rfl⟩
  | succ m ih =>
    intro x k hx hp hk hmk
    have hx0 : x ≠ 0 := by
      rintro rfl
      have : pcn 0 = 0 := by decide
      omega
    have hs := pcn_s x hx hx0
    refine r_iload_n dX11_bits_4 rfl ?_
    refine r_if_eq (tgt := 20) dX11_bits_5 (by decide) (fun h5 => by exfalso; omega) (fun h5 => ?_)
    refine r_iinc dX11_bits_8 rfl rfl (by decide) (w32_id (by omega)) st1 ?_
    refine r_iload_n dX11_bits_11 rfl ?_
    refine r_iload_n dX11_bits_12 rfl ?_
    refine r_iconst dX11_bits_13 (by decide) ?_
    refine r_isub dX11_bits_14 (w32_id (by omega)) ?_
    refine r_iand dX11_bits_15 (and_pred (by omega) (by omega) rfl) ?_
    refine r_istore_n dX11_bits_16 rfl (by decide) st2 ?_
    refine r_goto (tgt := 4) dX11_bits_17 (by decide) ?_
    have := ih (x &&& (x - 1)) (k + 1) hs.1 (by omega) (by omega) (by omega)
    rw [show m + (k + 1) = m + 1 + k by omega] at this
    exact V.al (by rw [Int.toNat_natCast]; rfl) this
theorem m_bits {S : Sh} {M : Me} {s : Int} (h0 : 0 ≤ s) (h1 : s < 4096) : Con kX11_bits 0 0 0 [(0, s)] S M (Ex (some (0, (pcn s.toNat : Int))) S M) := by
  refine Con.ofV (al := [(0, s), (9, 0), (9, 0)]) 2 (by decide) (Nat.le_of_ble_eq_true rfl) rfl ?_
  refine r_iconst dX11_bits_0 (by decide) ?_
  refine r_istore_n dX11_bits_1 rfl (by decide) st1 ?_
  refine r_iload_n dX11_bits_2 rfl ?_
  refine r_istore_n dX11_bits_3 rfl (by decide) st2 ?_
  have h9 := pcn_le s.toNat (by omega)
  have := l_bits (S := S) (M := M) (s := s) (pcn s.toNat) s.toNat 0 (by omega) rfl (by omega) (by omega)
  rw [Int.toNat_of_nonneg h0, Nat.add_zero] at this
  exact this
theorem m_isClosed2 {x y z : Int} {M : Me} {s : Int} {n : Nat} (hn : M 430 14 = (n : Int)) (hn12 : n ≤ 12) : Con kX11_isClosed 3 0 0 [(1, 429), (0, s)] (Sf x y z) M (Ex (some (0, bic (clo (hangT (tiA M) n) (bset (fun c : Int => M 430 (15 + 7 * c + 1) = 0) (fun c => c) n) s n))) (Sf x y z) M) :=
  (m_isClosed hn hn12).mono (fun v9 S9 M9 h => by
    obtain ⟨h1, h2, h3⟩ := h
    rcases h3 with ⟨h3, h4⟩ | ⟨h3, h4⟩
    · exact ⟨by rw [h4, bic_t h3], h1, h2⟩
    · exact ⟨by rw [h4, bic_f h3], h1, h2⟩)
/-- the worth of a set -/
def wsA (M : Me) (n : Nat) (s : Int) : Int := isum (fun c : Int => and32 (shr32 s c) 1 = 1) (fun c : Int => M 430 (15 + 7 * c + 5)) n
def thA (M : Me) (n : Nat) : Int := bset (fun c : Int => M 430 (15 + 7 * c + 1) = 0) (fun c => c) n
/-- the set s takes the place of the one found, f -/
def ctp (M : Me) (n nw : Nat) (s f : Int) : Prop := and32 s (xor32 (thA M n) (-1)) = 0 ∧ and32 (and32 (wtA M 1 nw) (thA M n)) (xor32 s (-1)) = 0 ∧ and32 s (wtA M 0 nw) = 0 ∧ (f = -1 ∨ wsA M n s < wsA M n f ∨ wsA M n s = wsA M n f ∧ pcn s.toNat < pcn f.toNat) ∧ clo (hangT (tiA M) n) (thA M n) s n
noncomputable def ctf (M : Me) (n nw : Nat) : Nat → Int
  | 0 => -1
  | s + 1 => @ite Int (ctp M n nw s (ctf M n nw s)) (Classical.propDecidable _) s (ctf M n nw s)
theorem ctf_t {M : Me} {n nw s : Nat} (h : ctp M n nw s (ctf M n nw s)) : ctf M n nw (s + 1) = s := cit_t h
theorem ctf_f {M : Me} {n nw s : Nat} (h : ¬ ctp M n nw s (ctf M n nw s)) : ctf M n nw (s + 1) = ctf M n nw s := cit_f h
theorem ctf_lt {M : Me} {n nw : Nat} : ∀ s : Nat, -1 ≤ ctf M n nw s ∧ ctf M n nw s < s := by
  intro s
  induction s with
  | zero => exact (show -1 ≤ (-1 : Int) ∧ (-1 : Int) < ((0 : Nat) : Int) by omega)
  | succ s ih =>
    by_cases h : ctp M n nw s (ctf M n nw s)
    · rw [ctf_t h]; omega
    · rw [ctf_f h]; omega
set_option maxHeartbeats 4000000 in
theorem l_cut {x y z : Int} {M : Me} {w : Int} {n : Nat} (hn : M 430 14 = (n : Int)) (hn12 : n ≤ 12) {nw : Nat} (hnw : M 430 4 = (nw : Int)) (hnw8 : nw ≤ 8) (hw : ∀ c : Int, 0 ≤ c → c < n → -9 ≤ M 430 (15 + 7 * c + 5) ∧ M 430 (15 + 7 * c + 5) ≤ 9) {al : Nat} (hal : thA M n = (al : Int)) (hal2 : al < 4096) : ∀ (m i : Nat), m + i = al + 1 → V kX11_cut 0 0 4 none (fun v9 S9 M9 => S9 = (Sf x y z) ∧ ((ctf M n nw (al + 1) = -1) ∧ v9 = some (0, -1000) ∧ M9 = M ∨ (ctf M n nw (al + 1) ≠ -1 ∧ w ≠ 0) ∧ v9 = some (0, wsA M n (ctf M n nw (al + 1))) ∧ M9 = M ∨ (ctf M n nw (al + 1) ≠ -1 ∧ w = 0) ∧ v9 = some (0, ctf M n nw (al + 1)) ∧ M9 = M)) 26 [(1, 429), (0, w), (0, (al : Int)), (0, and32 (wtA M 1 nw) (al : Int)), (0, wtA M 0 nw), (0, ctf M n nw i), (0, (i : Int))] [] (Sf x y z) M 0 0 := by
  intro m
  induction m with
  | zero =>
    intro i hi
    have hi2 : i = al + 1 := by omega
    subst hi2
    have hb := ctf_lt (M := M) (n := n) (nw := nw) (al + 1)
    refine r_iload dX11_cut_26 rfl ?_
    refine r_iload_n dX11_cut_28 rfl ?_
    refine r_icmp_gt (tgt := 132) dX11_cut_29 (by decide) (fun h29 => ?_) (fun h29 => by exfalso; omega)
    refine r_iload dX11_cut_132 rfl ?_
    refine r_iconst dX11_cut_134 (by decide) ?_
    refine r_icmp_ne (tgt := 144) dX11_cut_135 (by decide) (fun h135 => ?_) (fun h135 => ?_)
    · refine r_iload_n dX11_cut_144 rfl ?_
      refine r_if_eq (tgt := 157) dX11_cut_145 (by decide) (fun h145 => ?_) (fun h145 => ?_)
      · try have h145 := bi_0.mp h145
        refine r_iload dX11_cut_157 rfl ?_
        refine r_iret dX11_cut_159 rfl ?_
        first | exact ⟨rfl, Or.inl ⟨by omega, rfl, rfl⟩⟩ | exact ⟨rfl, Or.inr (Or.inl ⟨by omega, rfl, rfl⟩)⟩ | exact ⟨rfl, Or.inr (Or.inr (⟨by omega, rfl, rfl⟩))⟩
      · try have h145 := bi_1.mp h145
        refine r_aload_n dX11_cut_148 rfl (by decide) ?_
        refine r_iload dX11_cut_149 rfl ?_
        refine r_cv1 dX11_cut_151 clX11_390 sf429 (by decide) (by decide) rfl (by first | decide | omega) (Nat.le_of_ble_eq_true rfl) (m_worthOf hn hn12 hw) ⟨Nat.zero_le _, Nat.zero_le _⟩ (fun _ => ?_)
        refine r_goto (tgt := 159) dX11_cut_154 (by decide) ?_
        refine r_iret dX11_cut_159 rfl ?_
        first | exact ⟨rfl, Or.inl ⟨by omega, rfl, rfl⟩⟩ | exact ⟨rfl, Or.inr (Or.inl ⟨by omega, rfl, rfl⟩)⟩ | exact ⟨rfl, Or.inr (Or.inr (⟨by omega, rfl, rfl⟩))⟩
    · refine r_sipush dX11_cut_138 (by decide) (by decide) ?_
      refine r_goto (tgt := 159) dX11_cut_141 (by decide) ?_
      refine r_iret dX11_cut_159 rfl ?_
      first | exact ⟨rfl, Or.inl ⟨by omega, rfl, rfl⟩⟩ | exact ⟨rfl, Or.inr (Or.inl ⟨by omega, rfl, rfl⟩)⟩ | exact ⟨rfl, Or.inr (Or.inr (⟨by omega, rfl, rfl⟩))⟩
  | succ m ih =>
    intro i hi
    have hb := ctf_lt (M := M) (n := n) (nw := nw) i
    refine r_iload dX11_cut_26 rfl ?_
    refine r_iload_n dX11_cut_28 rfl ?_
    refine r_icmp_gt (tgt := 132) dX11_cut_29 (by decide) (fun h29 => by exfalso; omega) (fun h29 => ?_)
    refine r_iload dX11_cut_32 rfl ?_
    refine r_iload_n dX11_cut_34 rfl ?_
    refine r_iconst dX11_cut_35 (by decide) ?_
    refine r_ixor dX11_cut_36 rfl ?_
    refine r_iand dX11_cut_37 rfl ?_
    refine r_if_ne (tgt := 126) dX11_cut_38 (by decide) (fun h38 => ?_) (fun h38 => ?_)
    · refine r_iinc dX11_cut_126 rfl rfl (by decide) (w32_id (by omega)) st6 ?_
      refine r_goto (tgt := 26) dX11_cut_129 (by decide) ?_
      first | exact V.al (by rw [ctf_f (fun q => absurd q.1 (by rw [hal]; assumption))]; rfl) (ih (i + 1) (by omega)) | exact V.al (by rw [ctf_f (fun q => absurd q.2.1 (by rw [hal]; assumption))]; rfl) (ih (i + 1) (by omega)) | exact V.al (by rw [ctf_f (fun q => absurd q.2.2.1 (by assumption))]; rfl) (ih (i + 1) (by omega)) | exact V.al (by rw [ctf_f (fun q => absurd q.2.2.2.2 (by rw [hal]; assumption))]; rfl) (ih (i + 1) (by omega)) | exact V.al (by rw [ctf_f (fun q => absurd q.2.2.2.1 (by unfold wsA; omega))]; rfl) (ih (i + 1) (by omega)) | exact V.al (by rw [ctf_t (by unfold ctp wsA; rw [hal]; exact ⟨by assumption, by assumption, by assumption, by omega, by assumption⟩)]; rfl) (ih (i + 1) (by omega))
    · refine r_iload_n dX11_cut_41 rfl ?_
      refine r_iload dX11_cut_42 rfl ?_
      refine r_iconst dX11_cut_44 (by decide) ?_
      refine r_ixor dX11_cut_45 rfl ?_
      refine r_iand dX11_cut_46 rfl ?_
      refine r_if_ne (tgt := 126) dX11_cut_47 (by decide) (fun h47 => ?_) (fun h47 => ?_)
      · refine r_iinc dX11_cut_126 rfl rfl (by decide) (w32_id (by omega)) st6 ?_
        refine r_goto (tgt := 26) dX11_cut_129 (by decide) ?_
        first | exact V.al (by rw [ctf_f (fun q => absurd q.1 (by rw [hal]; assumption))]; rfl) (ih (i + 1) (by omega)) | exact V.al (by rw [ctf_f (fun q => absurd q.2.1 (by rw [hal]; assumption))]; rfl) (ih (i + 1) (by omega)) | exact V.al (by rw [ctf_f (fun q => absurd q.2.2.1 (by assumption))]; rfl) (ih (i + 1) (by omega)) | exact V.al (by rw [ctf_f (fun q => absurd q.2.2.2.2 (by rw [hal]; assumption))]; rfl) (ih (i + 1) (by omega)) | exact V.al (by rw [ctf_f (fun q => absurd q.2.2.2.1 (by unfold wsA; omega))]; rfl) (ih (i + 1) (by omega)) | exact V.al (by rw [ctf_t (by unfold ctp wsA; rw [hal]; exact ⟨by assumption, by assumption, by assumption, by omega, by assumption⟩)]; rfl) (ih (i + 1) (by omega))
      · refine r_iload dX11_cut_50 rfl ?_
        refine r_iload dX11_cut_52 rfl ?_
        refine r_iand dX11_cut_54 rfl ?_
        refine r_if_eq (tgt := 61) dX11_cut_55 (by decide) (fun h55 => ?_) (fun h55 => ?_)
        · refine r_iload dX11_cut_61 rfl ?_
          refine r_iconst dX11_cut_63 (by decide) ?_
          refine r_icmp_eq (tgt := 113) dX11_cut_64 (by decide) (fun h64 => ?_) (fun h64 => ?_)
          · refine r_aload_n dX11_cut_113 rfl (by decide) ?_
            refine r_iload dX11_cut_114 rfl ?_
            refine r_cv1 dX11_cut_116 clX11_405 sf429 (by decide) (by decide) rfl (by first | decide | omega) (Nat.le_of_ble_eq_true rfl) (m_isClosed2 hn hn12) ⟨Nat.zero_le _, Nat.zero_le _⟩ (fun _ => ?_)
            refine r_if_eq (tgt := 126) dX11_cut_119 (by decide) (fun h119 => ?_) (fun h119 => ?_)
            · try have h119 := bic_1 h119
              try have h119 := bic_0 h119
              try rw [show bset (fun c : Int => M 430 (15 + 7 * c + 1) = 0) (fun c => c) n = (al : Int) from hal] at h119
              refine r_iinc dX11_cut_126 rfl rfl (by decide) (w32_id (by omega)) st6 ?_
              refine r_goto (tgt := 26) dX11_cut_129 (by decide) ?_
              first | exact V.al (by rw [ctf_f (fun q => absurd q.1 (by rw [hal]; assumption))]; rfl) (ih (i + 1) (by omega)) | exact V.al (by rw [ctf_f (fun q => absurd q.2.1 (by rw [hal]; assumption))]; rfl) (ih (i + 1) (by omega)) | exact V.al (by rw [ctf_f (fun q => absurd q.2.2.1 (by assumption))]; rfl) (ih (i + 1) (by omega)) | exact V.al (by rw [ctf_f (fun q => absurd q.2.2.2.2 (by rw [hal]; assumption))]; rfl) (ih (i + 1) (by omega)) | exact V.al (by rw [ctf_f (fun q => absurd q.2.2.2.1 (by unfold wsA; omega))]; rfl) (ih (i + 1) (by omega)) | exact V.al (by rw [ctf_t (by unfold ctp wsA; rw [hal]; exact ⟨by assumption, by assumption, by assumption, by omega, by assumption⟩)]; rfl) (ih (i + 1) (by omega))
            · try have h119 := bic_1 h119
              try have h119 := bic_0 h119
              try rw [show bset (fun c : Int => M 430 (15 + 7 * c + 1) = 0) (fun c => c) n = (al : Int) from hal] at h119
              refine r_iload dX11_cut_122 rfl ?_
              refine r_istore dX11_cut_124 rfl (by decide) st5 ?_
              refine r_iinc dX11_cut_126 rfl rfl (by decide) (w32_id (by omega)) st6 ?_
              refine r_goto (tgt := 26) dX11_cut_129 (by decide) ?_
              first | exact V.al (by rw [ctf_f (fun q => absurd q.1 (by rw [hal]; assumption))]; rfl) (ih (i + 1) (by omega)) | exact V.al (by rw [ctf_f (fun q => absurd q.2.1 (by rw [hal]; assumption))]; rfl) (ih (i + 1) (by omega)) | exact V.al (by rw [ctf_f (fun q => absurd q.2.2.1 (by assumption))]; rfl) (ih (i + 1) (by omega)) | exact V.al (by rw [ctf_f (fun q => absurd q.2.2.2.2 (by rw [hal]; assumption))]; rfl) (ih (i + 1) (by omega)) | exact V.al (by rw [ctf_f (fun q => absurd q.2.2.2.1 (by unfold wsA; omega))]; rfl) (ih (i + 1) (by omega)) | exact V.al (by rw [ctf_t (by unfold ctp wsA; rw [hal]; exact ⟨by assumption, by assumption, by assumption, by omega, by assumption⟩)]; rfl) (ih (i + 1) (by omega))
          · refine r_aload_n dX11_cut_67 rfl (by decide) ?_
            refine r_iload dX11_cut_68 rfl ?_
            refine r_cv1 dX11_cut_70 clX11_390 sf429 (by decide) (by decide) rfl (by first | decide | omega) (Nat.le_of_ble_eq_true rfl) (m_worthOf hn hn12 hw) ⟨Nat.zero_le _, Nat.zero_le _⟩ (fun _ => ?_)
            refine r_aload_n dX11_cut_73 rfl (by decide) ?_
            refine r_iload dX11_cut_74 rfl ?_
            refine r_cv1 dX11_cut_76 clX11_390 sf429 (by decide) (by decide) rfl (by first | decide | omega) (Nat.le_of_ble_eq_true rfl) (m_worthOf hn hn12 hw) ⟨Nat.zero_le _, Nat.zero_le _⟩ (fun _ => ?_)
            refine r_icmp_gt (tgt := 126) dX11_cut_79 (by decide) (fun h79 => ?_) (fun h79 => ?_)
            · refine r_iinc dX11_cut_126 rfl rfl (by decide) (w32_id (by omega)) st6 ?_
              refine r_goto (tgt := 26) dX11_cut_129 (by decide) ?_
              first | exact V.al (by rw [ctf_f (fun q => absurd q.1 (by rw [hal]; assumption))]; rfl) (ih (i + 1) (by omega)) | exact V.al (by rw [ctf_f (fun q => absurd q.2.1 (by rw [hal]; assumption))]; rfl) (ih (i + 1) (by omega)) | exact V.al (by rw [ctf_f (fun q => absurd q.2.2.1 (by assumption))]; rfl) (ih (i + 1) (by omega)) | exact V.al (by rw [ctf_f (fun q => absurd q.2.2.2.2 (by rw [hal]; assumption))]; rfl) (ih (i + 1) (by omega)) | exact V.al (by rw [ctf_f (fun q => absurd q.2.2.2.1 (by unfold wsA; omega))]; rfl) (ih (i + 1) (by omega)) | exact V.al (by rw [ctf_t (by unfold ctp wsA; rw [hal]; exact ⟨by assumption, by assumption, by assumption, by omega, by assumption⟩)]; rfl) (ih (i + 1) (by omega))
            · refine r_aload_n dX11_cut_82 rfl (by decide) ?_
              refine r_iload dX11_cut_83 rfl ?_
              refine r_cv1 dX11_cut_85 clX11_390 sf429 (by decide) (by decide) rfl (by first | decide | omega) (Nat.le_of_ble_eq_true rfl) (m_worthOf hn hn12 hw) ⟨Nat.zero_le _, Nat.zero_le _⟩ (fun _ => ?_)
              refine r_aload_n dX11_cut_88 rfl (by decide) ?_
              refine r_iload dX11_cut_89 rfl ?_
              refine r_cv1 dX11_cut_91 clX11_390 sf429 (by decide) (by decide) rfl (by first | decide | omega) (Nat.le_of_ble_eq_true rfl) (m_worthOf hn hn12 hw) ⟨Nat.zero_le _, Nat.zero_le _⟩ (fun _ => ?_)
              refine r_icmp_ne (tgt := 113) dX11_cut_94 (by decide) (fun h94 => ?_) (fun h94 => ?_)
              · refine r_aload_n dX11_cut_113 rfl (by decide) ?_
                refine r_iload dX11_cut_114 rfl ?_
                refine r_cv1 dX11_cut_116 clX11_405 sf429 (by decide) (by decide) rfl (by first | decide | omega) (Nat.le_of_ble_eq_true rfl) (m_isClosed2 hn hn12) ⟨Nat.zero_le _, Nat.zero_le _⟩ (fun _ => ?_)
                refine r_if_eq (tgt := 126) dX11_cut_119 (by decide) (fun h119 => ?_) (fun h119 => ?_)
                · try have h119 := bic_1 h119
                  try have h119 := bic_0 h119
                  try rw [show bset (fun c : Int => M 430 (15 + 7 * c + 1) = 0) (fun c => c) n = (al : Int) from hal] at h119
                  refine r_iinc dX11_cut_126 rfl rfl (by decide) (w32_id (by omega)) st6 ?_
                  refine r_goto (tgt := 26) dX11_cut_129 (by decide) ?_
                  first | exact V.al (by rw [ctf_f (fun q => absurd q.1 (by rw [hal]; assumption))]; rfl) (ih (i + 1) (by omega)) | exact V.al (by rw [ctf_f (fun q => absurd q.2.1 (by rw [hal]; assumption))]; rfl) (ih (i + 1) (by omega)) | exact V.al (by rw [ctf_f (fun q => absurd q.2.2.1 (by assumption))]; rfl) (ih (i + 1) (by omega)) | exact V.al (by rw [ctf_f (fun q => absurd q.2.2.2.2 (by rw [hal]; assumption))]; rfl) (ih (i + 1) (by omega)) | exact V.al (by rw [ctf_f (fun q => absurd q.2.2.2.1 (by unfold wsA; omega))]; rfl) (ih (i + 1) (by omega)) | exact V.al (by rw [ctf_t (by unfold ctp wsA; rw [hal]; exact ⟨by assumption, by assumption, by assumption, by omega, by assumption⟩)]; rfl) (ih (i + 1) (by omega))
                · try have h119 := bic_1 h119
                  try have h119 := bic_0 h119
                  try rw [show bset (fun c : Int => M 430 (15 + 7 * c + 1) = 0) (fun c => c) n = (al : Int) from hal] at h119
                  refine r_iload dX11_cut_122 rfl ?_
                  refine r_istore dX11_cut_124 rfl (by decide) st5 ?_
                  refine r_iinc dX11_cut_126 rfl rfl (by decide) (w32_id (by omega)) st6 ?_
                  refine r_goto (tgt := 26) dX11_cut_129 (by decide) ?_
                  first | exact V.al (by rw [ctf_f (fun q => absurd q.1 (by rw [hal]; assumption))]; rfl) (ih (i + 1) (by omega)) | exact V.al (by rw [ctf_f (fun q => absurd q.2.1 (by rw [hal]; assumption))]; rfl) (ih (i + 1) (by omega)) | exact V.al (by rw [ctf_f (fun q => absurd q.2.2.1 (by assumption))]; rfl) (ih (i + 1) (by omega)) | exact V.al (by rw [ctf_f (fun q => absurd q.2.2.2.2 (by rw [hal]; assumption))]; rfl) (ih (i + 1) (by omega)) | exact V.al (by rw [ctf_f (fun q => absurd q.2.2.2.1 (by unfold wsA; omega))]; rfl) (ih (i + 1) (by omega)) | exact V.al (by rw [ctf_t (by unfold ctp wsA; rw [hal]; exact ⟨by assumption, by assumption, by assumption, by omega, by assumption⟩)]; rfl) (ih (i + 1) (by omega))
              · refine r_iload dX11_cut_97 rfl ?_
                refine r_cs1 dX11_cut_99 clX11_302 (by first | decide | omega) (Nat.le_of_ble_eq_true rfl) (m_bits (by omega) (by omega)) ⟨Nat.zero_le _, Nat.zero_le _⟩ (fun _ => ?_)
                refine r_iload dX11_cut_102 rfl ?_
                refine r_cs1 dX11_cut_104 clX11_302 (by first | decide | omega) (Nat.le_of_ble_eq_true rfl) (m_bits (by omega) (by omega)) ⟨Nat.zero_le _, Nat.zero_le _⟩ (fun _ => ?_)
                refine r_icmp_lt (tgt := 113) dX11_cut_107 (by decide) (fun h107 => ?_) (fun h107 => ?_)
                · refine r_aload_n dX11_cut_113 rfl (by decide) ?_
                  refine r_iload dX11_cut_114 rfl ?_
                  refine r_cv1 dX11_cut_116 clX11_405 sf429 (by decide) (by decide) rfl (by first | decide | omega) (Nat.le_of_ble_eq_true rfl) (m_isClosed2 hn hn12) ⟨Nat.zero_le _, Nat.zero_le _⟩ (fun _ => ?_)
                  refine r_if_eq (tgt := 126) dX11_cut_119 (by decide) (fun h119 => ?_) (fun h119 => ?_)
                  · try have h119 := bic_1 h119
                    try have h119 := bic_0 h119
                    try rw [show bset (fun c : Int => M 430 (15 + 7 * c + 1) = 0) (fun c => c) n = (al : Int) from hal] at h119
                    refine r_iinc dX11_cut_126 rfl rfl (by decide) (w32_id (by omega)) st6 ?_
                    refine r_goto (tgt := 26) dX11_cut_129 (by decide) ?_
                    first | exact V.al (by rw [ctf_f (fun q => absurd q.1 (by rw [hal]; assumption))]; rfl) (ih (i + 1) (by omega)) | exact V.al (by rw [ctf_f (fun q => absurd q.2.1 (by rw [hal]; assumption))]; rfl) (ih (i + 1) (by omega)) | exact V.al (by rw [ctf_f (fun q => absurd q.2.2.1 (by assumption))]; rfl) (ih (i + 1) (by omega)) | exact V.al (by rw [ctf_f (fun q => absurd q.2.2.2.2 (by rw [hal]; assumption))]; rfl) (ih (i + 1) (by omega)) | exact V.al (by rw [ctf_f (fun q => absurd q.2.2.2.1 (by unfold wsA; omega))]; rfl) (ih (i + 1) (by omega)) | exact V.al (by rw [ctf_t (by unfold ctp wsA; rw [hal]; exact ⟨by assumption, by assumption, by assumption, by omega, by assumption⟩)]; rfl) (ih (i + 1) (by omega))
                  · try have h119 := bic_1 h119
                    try have h119 := bic_0 h119
                    try rw [show bset (fun c : Int => M 430 (15 + 7 * c + 1) = 0) (fun c => c) n = (al : Int) from hal] at h119
                    refine r_iload dX11_cut_122 rfl ?_
                    refine r_istore dX11_cut_124 rfl (by decide) st5 ?_
                    refine r_iinc dX11_cut_126 rfl rfl (by decide) (w32_id (by omega)) st6 ?_
                    refine r_goto (tgt := 26) dX11_cut_129 (by decide) ?_
                    first | exact V.al (by rw [ctf_f (fun q => absurd q.1 (by rw [hal]; assumption))]; rfl) (ih (i + 1) (by omega)) | exact V.al (by rw [ctf_f (fun q => absurd q.2.1 (by rw [hal]; assumption))]; rfl) (ih (i + 1) (by omega)) | exact V.al (by rw [ctf_f (fun q => absurd q.2.2.1 (by assumption))]; rfl) (ih (i + 1) (by omega)) | exact V.al (by rw [ctf_f (fun q => absurd q.2.2.2.2 (by rw [hal]; assumption))]; rfl) (ih (i + 1) (by omega)) | exact V.al (by rw [ctf_f (fun q => absurd q.2.2.2.1 (by unfold wsA; omega))]; rfl) (ih (i + 1) (by omega)) | exact V.al (by rw [ctf_t (by unfold ctp wsA; rw [hal]; exact ⟨by assumption, by assumption, by assumption, by omega, by assumption⟩)]; rfl) (ih (i + 1) (by omega))
                · refine r_goto (tgt := 126) dX11_cut_110 (by decide) ?_
                  refine r_iinc dX11_cut_126 rfl rfl (by decide) (w32_id (by omega)) st6 ?_
                  refine r_goto (tgt := 26) dX11_cut_129 (by decide) ?_
                  first | exact V.al (by rw [ctf_f (fun q => absurd q.1 (by rw [hal]; assumption))]; rfl) (ih (i + 1) (by omega)) | exact V.al (by rw [ctf_f (fun q => absurd q.2.1 (by rw [hal]; assumption))]; rfl) (ih (i + 1) (by omega)) | exact V.al (by rw [ctf_f (fun q => absurd q.2.2.1 (by assumption))]; rfl) (ih (i + 1) (by omega)) | exact V.al (by rw [ctf_f (fun q => absurd q.2.2.2.2 (by rw [hal]; assumption))]; rfl) (ih (i + 1) (by omega)) | exact V.al (by rw [ctf_f (fun q => absurd q.2.2.2.1 (by unfold wsA; omega))]; rfl) (ih (i + 1) (by omega)) | exact V.al (by rw [ctf_t (by unfold ctp wsA; rw [hal]; exact ⟨by assumption, by assumption, by assumption, by omega, by assumption⟩)]; rfl) (ih (i + 1) (by omega))
        · refine r_goto (tgt := 126) dX11_cut_58 (by decide) ?_
          refine r_iinc dX11_cut_126 rfl rfl (by decide) (w32_id (by omega)) st6 ?_
          refine r_goto (tgt := 26) dX11_cut_129 (by decide) ?_
          first | exact V.al (by rw [ctf_f (fun q => absurd q.1 (by rw [hal]; assumption))]; rfl) (ih (i + 1) (by omega)) | exact V.al (by rw [ctf_f (fun q => absurd q.2.1 (by rw [hal]; assumption))]; rfl) (ih (i + 1) (by omega)) | exact V.al (by rw [ctf_f (fun q => absurd q.2.2.1 (by assumption))]; rfl) (ih (i + 1) (by omega)) | exact V.al (by rw [ctf_f (fun q => absurd q.2.2.2.2 (by rw [hal]; assumption))]; rfl) (ih (i + 1) (by omega)) | exact V.al (by rw [ctf_f (fun q => absurd q.2.2.2.1 (by unfold wsA; omega))]; rfl) (ih (i + 1) (by omega)) | exact V.al (by rw [ctf_t (by unfold ctp wsA; rw [hal]; exact ⟨by assumption, by assumption, by assumption, by omega, by assumption⟩)]; rfl) (ih (i + 1) (by omega))
theorem m_cut {x y z : Int} {M : Me} {w : Int} {n : Nat} (hn : M 430 14 = (n : Int)) (hn12 : n ≤ 12) {nw : Nat} (hnw : M 430 4 = (nw : Int)) (hnw8 : nw ≤ 8) (hw : ∀ c : Int, 0 ≤ c → c < n → -9 ≤ M 430 (15 + 7 * c + 5) ∧ M 430 (15 + 7 * c + 5) ≤ 9) {al : Nat} (hal : thA M n = (al : Int)) (hal2 : al < 4096) : Con kX11_cut 4 0 0 [(1, 429), (0, w)] (Sf x y z) M (fun v9 S9 M9 => S9 = (Sf x y z) ∧ ((ctf M n nw (al + 1) = -1) ∧ v9 = some (0, -1000) ∧ M9 = M ∨ (ctf M n nw (al + 1) ≠ -1 ∧ w ≠ 0) ∧ v9 = some (0, wsA M n (ctf M n nw (al + 1))) ∧ M9 = M ∨ (ctf M n nw (al + 1) ≠ -1 ∧ w = 0) ∧ v9 = some (0, ctf M n nw (al + 1)) ∧ M9 = M)) := by
  refine Con.ofV (al := [(1, 429), (0, w), (9, 0), (9, 0), (9, 0), (9, 0), (9, 0)]) 5 (by decide) (Nat.le_of_ble_eq_true rfl) rfl ?_
  refine r_aload_n dX11_cut_0 rfl (by decide) ?_
  refine r_cv0 dX11_cut_1 clX11_336 sf429 (by decide) (by decide) rfl (by first | decide | omega) (Nat.le_of_ble_eq_true rfl) (c_there hn hn12) ⟨Nat.zero_le _, Nat.zero_le _⟩ (fun _ => ?_)
  rw [show bset (fun c : Int => M 430 (15 + 7 * c + 1) = 0) (fun c => c) n = (al : Int) from hal]
  refine r_istore_n dX11_cut_4 rfl (by decide) st2 ?_
  refine r_aload_n dX11_cut_5 rfl (by decide) ?_
  refine r_iconst dX11_cut_6 (by decide) ?_
  refine r_cv1 dX11_cut_7 clX11_402 sf429 (by decide) (by decide) rfl (by first | decide | omega) (Nat.le_of_ble_eq_true rfl) (m_wanted hnw hnw8) ⟨Nat.zero_le _, Nat.zero_le _⟩ (fun _ => ?_)
  refine r_iload_n dX11_cut_10 rfl ?_
  refine r_iand dX11_cut_11 rfl ?_
  refine r_istore_n dX11_cut_12 rfl (by decide) st3 ?_
  refine r_aload_n dX11_cut_13 rfl (by decide) ?_
  refine r_iconst dX11_cut_14 (by decide) ?_
  refine r_cv1 dX11_cut_15 clX11_402 sf429 (by decide) (by decide) rfl (by first | decide | omega) (Nat.le_of_ble_eq_true rfl) (m_wanted hnw hnw8) ⟨Nat.zero_le _, Nat.zero_le _⟩ (fun _ => ?_)
  refine r_istore dX11_cut_18 rfl (by decide) st4 ?_
  refine r_iconst dX11_cut_20 (by decide) ?_
  refine r_istore dX11_cut_21 rfl (by decide) st5 ?_
  refine r_iconst dX11_cut_23 (by decide) ?_
  refine r_istore dX11_cut_24 rfl (by decide) st6 ?_
  exact l_cut hn hn12 hnw hnw8 hw hal hal2 (al + 1) 0 (by omega)
