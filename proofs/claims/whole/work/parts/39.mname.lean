theorem or4 {a b : Int} (ha : 0 ≤ a ∧ a < 4096) (hb : 0 ≤ b ∧ b < 4096) : 0 ≤ or32 a b ∧ or32 a b < 4096 := by
  obtain ⟨x, rfl⟩ : ∃ k : Nat, a = (k : Int) := ⟨a.toNat, by omega⟩
  obtain ⟨y, rfl⟩ : ∃ k : Nat, b = (k : Int) := ⟨b.toNat, by omega⟩
  have h : x ||| y < 2 ^ 12 := Nat.or_lt_two_pow (by omega) (by omega)
  rw [or32_n (by omega)]
  omega
theorem shl4 : ∀ c : Nat, c < 12 → 0 ≤ shl32 1 c ∧ shl32 1 c < 4096 := by decide +kernel
theorem shl4i {c : Int} (hc : 0 ≤ c ∧ c < 12) : 0 ≤ shl32 1 c ∧ shl32 1 c < 4096 := by
  obtain ⟨x, rfl⟩ : ∃ k : Nat, c = (k : Int) := ⟨c.toNat, by omega⟩
  exact shl4 x (by omega)
theorem bset4 {p : Int → Prop} [DecidablePred p] : ∀ n : Nat, n ≤ 12 → 0 ≤ bset p (fun c => c) n ∧ bset p (fun c => c) n < 4096 := by
  intro n
  induction n with
  | zero => intro _; exact (show (0 : Int) ≤ 0 ∧ (0 : Int) < 4096 by decide)
  | succ n ih =>
    intro h
    by_cases q : p n
    · rw [bset_t (f := fun c => c) q]; exact or4 (ih (by omega)) (shl4 n (by omega))
    · rw [bset_f (f := fun c => c) q]; exact or4 (ih (by omega)) (by decide)
theorem hp4 {T : Int → Int} {s : Int} (hs : 0 ≤ s ∧ s < 4096) : ∀ n : Nat, n ≤ 12 → 0 ≤ hp1 T s n ∧ hp1 T s n < 4096 := by
  intro n
  induction n with
  | zero => intro _; exact hs
  | succ n ih =>
    intro h
    by_cases q : and32 (T n) (hp1 T s n) ≠ 0
    · rw [hp1_t q]; exact or4 (ih (by omega)) (shl4 n (by omega))
    · rw [hp1_f q]; exact or4 (ih (by omega)) (by decide)
theorem hk4 {T : Int → Int} {s : Int} (hs : 0 ≤ s ∧ s < 4096) {n : Nat} (hn : n ≤ 12) : ∀ k : Nat, 0 ≤ hk T n s k ∧ hk T n s k < 4096 := by
  intro k
  induction k with
  | zero => exact hs
  | succ k ih => exact hp4 ih n hn
theorem hangT4 {T : Int → Int} {n : Nat} (hn : n ≤ 12) {c : Int} (hc : 0 ≤ c ∧ c < 12) : 0 ≤ hangT T n c ∧ hangT T n c < 4096 := hk4 (shl4i hc) hn 12
/-- what the names say of a CREASE -/
def nmV (M : Me) (n : Nat) (c k : Int) : Int := if k = 0 then M 430 10 else if k = 1 then M 430 13 else if k = 2 then M 430 (15 + 7 * c + 2) else if k = 3 then M 430 (99 + 3 * M 430 (15 + 7 * c + 2) + 1) else if k = 4 then M 430 (15 + 7 * c + 3) else if k = 5 then M 430 (15 + 7 * c + 0) else if k = 6 then M 430 (15 + 7 * c + 5) else if k = 7 then M 430 (99 + 3 * M 430 (15 + 7 * c + 2) + 0) else (pcn (hangT (tiA M) n c).toNat : Int)
def nmA (M : Me) (n : Nat) (c : Int) : Me := row1 M 435 9 (nmV M n c)
theorem nm_s {M : Me} {X : Int → Int} {k k2 v : Int} (hk2 : k2 = k + 1) (hk : 0 ≤ k ∧ k < 9) (hv : X k = v) : up (row1 M 435 9 (fun j => if j < k then X j else M 435 j)) 435 k v = row1 M 435 9 (fun j => if j < k2 then X j else M 435 j) := by
  subst hk2
  refine row1_up hk (fun c _ _ => ?_)
  by_cases e : c = k
  · subst e; rw [if_pos (by omega), if_pos rfl, hv]
  · rw [if_neg e]
    by_cases e2 : c < k
    · rw [if_pos e2, if_pos (by omega)]
    · rw [if_neg e2, if_neg (by omega)]
theorem nm_0 {M : Me} {X : Int → Int} : M = row1 M 435 9 (fun j => if j < 0 then X j else M 435 j) := row1_id.trans (row1_c (fun c h _ => (if_neg (by omega)).symm))
theorem m_name {x y z : Int} {M : Me} (hW : WA M) {n : Nat} (hn : M 430 14 = (n : Int)) (hn12 : n ≤ 12) {c : Int} (hc : 0 ≤ c ∧ c < 12) : Con kX11_name 2 0 0 [(1, 429), (0, c)] (Sf x y z) M (Ex none (Sf x y z) (nmA M n c)) := by
  refine Con.ofV (al := [(1, 429), (0, c), (9, 0)]) 1 (by decide) (Nat.le_of_ble_eq_true rfl) rfl ?_
  have h2 := wc_2 hW hc
  refine r_aload_n dX11_name_0 rfl (by decide) ?_
  refine r_iload_n dX11_name_1 rfl ?_
  refine r_iconst dX11_name_2 (by decide) ?_
  refine r_cv2 dX11_name_3 clX11_66 sf429 (by decide) (by decide) rfl (by first | decide | omega) (Nat.le_of_ble_eq_true rfl) ((c_get (by omega) (by decide))) ⟨Nat.zero_le _, Nat.zero_le _⟩ (fun _ => ?_)
  refine r_istore_n dX11_name_6 rfl (by decide) st2 ?_
  refine V.cm rfl (nm_0 (X := nmV M n c)) ?_
  refine r_aload_n dX11_name_7 rfl (by decide) ?_
  refine r_getr (x := 435) dX11_name_8 flX11_32 sf429 (by decide) (by decide) rfl rfl ?_
  refine r_iconst dX11_name_11 (by decide) ?_
  refine r_aload_n dX11_name_12 rfl (by decide) ?_
  refine r_getr (x := 430) dX11_name_13 flX11_7 sf429 (by decide) (by decide) rfl rfl ?_
  refine r_bipush dX11_name_16 (by decide) (by decide) ?_
  refine r_iald dX11_name_18 sf430 (by decide) (by omega) (by omega) (by decide) (row1_o (by omega)) ?_
  refine r_iast dX11_name_19 sf435 (by decide) (by omega) (by omega) (by decide) rfl ?_
  refine V.cm rfl (nm_s (X := nmV M n c) (k := 0) (k2 := 1) rfl (by decide) (by unfold nmV; rw [if_pos rfl])) ?_
  refine r_aload_n dX11_name_20 rfl (by decide) ?_
  refine r_getr (x := 435) dX11_name_21 flX11_32 sf429 (by decide) (by decide) rfl rfl ?_
  refine r_iconst dX11_name_24 (by decide) ?_
  refine r_aload_n dX11_name_25 rfl (by decide) ?_
  refine r_getr (x := 430) dX11_name_26 flX11_7 sf429 (by decide) (by decide) rfl rfl ?_
  refine r_bipush dX11_name_29 (by decide) (by decide) ?_
  refine r_iald dX11_name_31 sf430 (by decide) (by omega) (by omega) (by decide) (row1_o (by omega)) ?_
  refine r_iast dX11_name_32 sf435 (by decide) (by omega) (by omega) (by decide) rfl ?_
  refine V.cm rfl (nm_s (X := nmV M n c) (k := 1) (k2 := 2) rfl (by decide) (by unfold nmV; rw [if_neg (by decide), if_pos rfl])) ?_
  refine r_aload_n dX11_name_33 rfl (by decide) ?_
  refine r_getr (x := 435) dX11_name_34 flX11_32 sf429 (by decide) (by decide) rfl rfl ?_
  refine r_iconst dX11_name_37 (by decide) ?_
  refine r_iload_n dX11_name_38 rfl ?_
  refine r_iast dX11_name_39 sf435 (by decide) (by omega) (by omega) (by decide) rfl ?_
  refine V.cm rfl (nm_s (X := nmV M n c) (k := 2) (k2 := 3) rfl (by decide) (by unfold nmV; rw [if_neg (by decide), if_neg (by decide), if_pos rfl])) ?_
  refine r_aload_n dX11_name_40 rfl (by decide) ?_
  refine r_getr (x := 435) dX11_name_41 flX11_32 sf429 (by decide) (by decide) rfl rfl ?_
  refine r_iconst dX11_name_44 (by decide) ?_
  refine r_aload_n dX11_name_45 rfl (by decide) ?_
  refine r_iload_n dX11_name_46 rfl ?_
  refine r_iconst dX11_name_47 (by decide) ?_
  refine r_cv2 dX11_name_48 clX11_296 sf429 (by decide) (by decide) rfl (by first | decide | omega) (Nat.le_of_ble_eq_true rfl) ((c_own (by omega) (by decide))) ⟨Nat.zero_le _, Nat.zero_le _⟩ (fun _ => ?_)
  rw [row1_o (by omega)]
  refine r_iast dX11_name_51 sf435 (by decide) (by omega) (by omega) (by decide) rfl ?_
  refine V.cm rfl (nm_s (X := nmV M n c) (k := 3) (k2 := 4) rfl (by decide) (by unfold nmV; rw [if_neg (by decide), if_neg (by decide), if_neg (by decide), if_pos rfl])) ?_
  refine r_aload_n dX11_name_52 rfl (by decide) ?_
  refine r_getr (x := 435) dX11_name_53 flX11_32 sf429 (by decide) (by decide) rfl rfl ?_
  refine r_iconst dX11_name_56 (by decide) ?_
  refine r_aload_n dX11_name_57 rfl (by decide) ?_
  refine r_iload_n dX11_name_58 rfl ?_
  refine r_iconst dX11_name_59 (by decide) ?_
  refine r_cv2 dX11_name_60 clX11_66 sf429 (by decide) (by decide) rfl (by first | decide | omega) (Nat.le_of_ble_eq_true rfl) ((c_get (by omega) (by decide))) ⟨Nat.zero_le _, Nat.zero_le _⟩ (fun _ => ?_)
  rw [row1_o (by omega)]
  refine r_iast dX11_name_63 sf435 (by decide) (by omega) (by omega) (by decide) rfl ?_
  refine V.cm rfl (nm_s (X := nmV M n c) (k := 4) (k2 := 5) rfl (by decide) (by unfold nmV; rw [if_neg (by decide), if_neg (by decide), if_neg (by decide), if_neg (by decide), if_pos rfl])) ?_
  refine r_aload_n dX11_name_64 rfl (by decide) ?_
  refine r_getr (x := 435) dX11_name_65 flX11_32 sf429 (by decide) (by decide) rfl rfl ?_
  refine r_iconst dX11_name_68 (by decide) ?_
  refine r_aload_n dX11_name_69 rfl (by decide) ?_
  refine r_iload_n dX11_name_70 rfl ?_
  refine r_iconst dX11_name_71 (by decide) ?_
  refine r_cv2 dX11_name_72 clX11_66 sf429 (by decide) (by decide) rfl (by first | decide | omega) (Nat.le_of_ble_eq_true rfl) ((c_get (by omega) (by decide))) ⟨Nat.zero_le _, Nat.zero_le _⟩ (fun _ => ?_)
  rw [row1_o (by omega)]
  refine r_iast dX11_name_75 sf435 (by decide) (by omega) (by omega) (by decide) rfl ?_
  refine V.cm rfl (nm_s (X := nmV M n c) (k := 5) (k2 := 6) rfl (by decide) (by unfold nmV; rw [if_neg (by decide), if_neg (by decide), if_neg (by decide), if_neg (by decide), if_neg (by decide), if_pos rfl])) ?_
  refine r_aload_n dX11_name_76 rfl (by decide) ?_
  refine r_getr (x := 435) dX11_name_77 flX11_32 sf429 (by decide) (by decide) rfl rfl ?_
  refine r_bipush dX11_name_80 (by decide) (by decide) ?_
  refine r_aload_n dX11_name_82 rfl (by decide) ?_
  refine r_iload_n dX11_name_83 rfl ?_
  refine r_iconst dX11_name_84 (by decide) ?_
  refine r_cv2 dX11_name_85 clX11_66 sf429 (by decide) (by decide) rfl (by first | decide | omega) (Nat.le_of_ble_eq_true rfl) ((c_get (by omega) (by decide))) ⟨Nat.zero_le _, Nat.zero_le _⟩ (fun _ => ?_)
  rw [row1_o (by omega)]
  refine r_iast dX11_name_88 sf435 (by decide) (by omega) (by omega) (by decide) rfl ?_
  refine V.cm rfl (nm_s (X := nmV M n c) (k := 6) (k2 := 7) rfl (by decide) (by unfold nmV; rw [if_neg (by decide), if_neg (by decide), if_neg (by decide), if_neg (by decide), if_neg (by decide), if_neg (by decide), if_pos rfl])) ?_
  refine r_aload_n dX11_name_89 rfl (by decide) ?_
  refine r_getr (x := 435) dX11_name_90 flX11_32 sf429 (by decide) (by decide) rfl rfl ?_
  refine r_bipush dX11_name_93 (by decide) (by decide) ?_
  refine r_aload_n dX11_name_95 rfl (by decide) ?_
  refine r_iload_n dX11_name_96 rfl ?_
  refine r_iconst dX11_name_97 (by decide) ?_
  refine r_cv2 dX11_name_98 clX11_296 sf429 (by decide) (by decide) rfl (by first | decide | omega) (Nat.le_of_ble_eq_true rfl) ((c_own (by omega) (by decide))) ⟨Nat.zero_le _, Nat.zero_le _⟩ (fun _ => ?_)
  rw [row1_o (by omega)]
  refine r_iast dX11_name_101 sf435 (by decide) (by omega) (by omega) (by decide) rfl ?_
  refine V.cm rfl (nm_s (X := nmV M n c) (k := 7) (k2 := 8) rfl (by decide) (by unfold nmV; rw [if_neg (by decide), if_neg (by decide), if_neg (by decide), if_neg (by decide), if_neg (by decide), if_neg (by decide), if_neg (by decide), if_pos rfl])) ?_
  refine r_aload_n dX11_name_102 rfl (by decide) ?_
  refine r_getr (x := 435) dX11_name_103 flX11_32 sf429 (by decide) (by decide) rfl rfl ?_
  refine r_bipush dX11_name_106 (by decide) (by decide) ?_
  refine r_aload_n dX11_name_108 rfl (by decide) ?_
  refine r_iload_n dX11_name_109 rfl ?_
  refine r_cv1 dX11_name_110 clX11_299 sf429 (by decide) (by decide) rfl (by first | decide | omega) (Nat.le_of_ble_eq_true rfl) ((m_hangingOn (M := row1 M 435 9 _) ((row1_o (by omega)).trans hn) hn12)) ⟨Nat.zero_le _, Nat.zero_le _⟩ (fun _ => ?_)
  rw [show tiA (row1 M 435 9 (fun j => if j < 8 then nmV M n c j else M 435 j)) = tiA M from funext (fun c => row1_o (by omega))]
  refine r_cs1 dX11_name_113 clX11_302 (by first | decide | omega) (Nat.le_of_ble_eq_true rfl) ((m_bits (hangT4 hn12 hc).1 (hangT4 hn12 hc).2)) ⟨Nat.zero_le _, Nat.zero_le _⟩ (fun _ => ?_)
  refine r_iast dX11_name_116 sf435 (by decide) (by omega) (by omega) (by decide) rfl ?_
  refine V.cm rfl (nm_s (X := nmV M n c) (k := 8) (k2 := 9) rfl (by decide) (by unfold nmV; rw [if_neg (by decide), if_neg (by decide), if_neg (by decide), if_neg (by decide), if_neg (by decide), if_neg (by decide), if_neg (by decide), if_neg (by decide)])) ?_
  refine r_ret0 dX11_name_117 rfl ?_
  exact ⟨rfl, rfl, row1_c (fun c _ h => if_pos (by omega))⟩
