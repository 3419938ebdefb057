/-- the law l of the text t, whatever is asked of it, keeps within the rows -/
def XOK (T : Int → Int) (t l : Int) : Prop := 0 ≤ T (705 * t + 1 + 4 * l + 1) ∧ T (705 * t + 1 + 4 * l + 1) ≤ T (705 * t + 1 + 4 * l + 2) ∧ T (705 * t + 1 + 4 * l + 2) ≤ 300 ∧ ∀ dp nm X Y : Int → Int, (∀ v, 0 ≤ dp v ∧ dp v ≤ 9) → (∀ k, 0 ≤ k → k < 9 → -9 ≤ nm k ∧ nm k ≤ 9999) → ∀ j : Nat, j < (T (705 * t + 1 + 4 * l + 2) - T (705 * t + 1 + 4 * l + 1)).toNat → grd (T (705 * t + 97 + 2 * (T (705 * t + 1 + 4 * l + 1) + (j : Int)))) (T (705 * t + 97 + 2 * (T (705 * t + 1 + 4 * l + 1) + (j : Int)) + 1)) (rnS dp nm T (705 * t + 97) (T (705 * t + 1 + 4 * l + 1)) (X, Y, 0, 0) j)
/-- the texts that count are whole ones -/
def TXT (M : Me) : Prop := ∀ t : Int, 0 ≤ t → t < M 430 1 → (0 ≤ M 432 (705 * t) ∧ M 432 (705 * t) ≤ 24) ∧ ∀ l : Nat, (l : Int) < M 432 (705 * t) → (0 ≤ M 432 (705 * t + 1 + 4 * (l : Int)) ∧ M 432 (705 * t + 1 + 4 * (l : Int)) ≤ 10) ∧ (M 432 (705 * t + 1 + 4 * (l : Int)) ≤ 2 → XOK (M 432) t l) ∧ (M 432 (705 * t + 1 + 4 * (l : Int)) = 10 → 1 ≤ M 432 (705 * t + 1 + 4 * (l : Int) + 1) ∧ M 432 (705 * t + 1 + 4 * (l : Int) + 1) ≤ 60)
/-- what the reference keeps to -/
def HY (M : Me) : Prop := WA M ∧ M 430 2 < M 430 1 ∧ TXT M
theorem HY.of {M N : Me} (h : HY M) (hW : WA N) (h1 : N 430 1 = M 430 1) (h2 : N 430 2 = M 430 2) (hT : N 432 = M 432) : HY N := by
  refine ⟨hW, by rw [h1, h2]; exact h.2.1, ?_⟩
  unfold TXT
  rw [h1, hT]
  exact h.2.2
theorem nmA_row {M : Me} {n : Nat} {c a : Int} (h : a ≠ 435) : nmA M n c a = M a := funext (fun j => row1_o (by omega))
theorem dpF_b {M : Me} (h : WA M) {v : Int} : 0 ≤ dpF M v ∧ dpF M v ≤ 9 := by
  unfold dpF
  split
  · have := wa_14 h
    exact wc_0 h (by omega)
  · decide

theorem nmV_b {M : Me} (h : WA M) {n : Nat} (hn12 : n ≤ 12) {c : Int} (hc : 0 ≤ c ∧ c < 12) {k : Int} : -9 ≤ nmV M n c k ∧ nmV M n c k ≤ 9999 := by
  have a0 := wc_0 h hc
  have a2 := wc_2 h hc
  have a3 := wc_3 h hc
  have a5 := wc_5 h hc
  have b1 := wp_1 h (c := M 430 (15 + 7 * c + 2)) (by omega)
  have b0 := wp_0 h (c := M 430 (15 + 7 * c + 2)) (by omega)
  have h10 := wa_10 h
  have h13 := wa_13 h
  have hh := hangT4 (T := tiA M) hn12 hc
  have hp := pcn_le (hangT (tiA M) n c).toNat (by omega)
  unfold nmV
  (repeat' split) <;> omega
theorem LOK.of {M : Me} (h : WA M) {n : Nat} (hn12 : n ≤ 12) {c : Int} (hc : 0 ≤ c ∧ c < 12) {t l : Int} (hX : XOK (M 432) t l) : LOK (nmA M n c) t l := by
  unfold LOK
  rw [nmA_row (show (432 : Int) ≠ 435 by decide)]
  refine ⟨hX.1, hX.2.1, hX.2.2.1, hX.2.2.2 _ _ _ _ (fun v => ?_) (fun k h0 h1 => ?_)⟩
  · exact dpF_b (wa_o h (fun j _ _ => row1_o (by omega)))
  · rw [show nmA M n c 435 k = nmV M n c k from rd_rX (by omega) rfl]
    exact nmV_b h hn12 hc
theorem syV_n {M : Me} {t u g o : Int} {cn : Nat} (h : t < 0) : syV M t u g o cn = hld g 0 o := by
  unfold syV lwX
  rw [if_pos h]; exact if_pos (by decide)
theorem syM_n {M : Me} {t u : Int} {cn : Nat} (h : t < 0) : syM M t u cn = M := by
  unfold syM lwX
  rw [if_pos h]; exact if_pos (by decide)
abbrev cnO (M : Me) (t : Int) : Nat := (M 432 (705 * t)).toNat
/-- what a law says of a CREASE, and the reference's memory behind it -/
def lwV (M : Me) (n : Nat) (c t u g o : Int) : Int := syV (nmA M n c) t u g o (cnO M t)
def lxM (M : Me) (n : Nat) (c t u : Int) : Me := syM (nmA M n c) t u (cnO M t)
theorem lxM_o {M : Me} {n : Nat} {c t u a j : Int} (h : ¬ (435 ≤ a ∧ a ≤ 437)) : lxM M n c t u a j = M a j := (syM_o (by omega)).trans (row1_o (by omega))
theorem lxM_row {M : Me} {n : Nat} {c t u a : Int} (h : ¬ (435 ≤ a ∧ a ≤ 437)) : lxM M n c t u a = M a := funext (fun j => lxM_o h)
theorem lwV_b {M : Me} {n : Nat} {c t u g o : Int} (h : 0 ≤ o) : 0 ≤ lwV M n c t u g o ∧ lwV M n c t u g o ≤ o := syV_b h
theorem HY.lw {M : Me} (h : HY M) {n : Nat} {c t u : Int} : HY (lxM M n c t u) := h.of (wa_o h.1 (fun j _ _ => lxM_o (by omega))) (lxM_o (by omega)) (lxM_o (by omega)) (lxM_row (by omega))
def lwP (M : Me) (n : Nat) (c : Int) : Int := lwV M n c (M 430 2) 0 (if nmV M n c 3 = 2 then 1 else M 430 13 / 2) 9
def lwS (M : Me) (n : Nat) (c : Int) : Int := lwV M n c (M 430 2) 1 (M 430 13 - 6) 10
def lwC (M : Me) (n : Nat) (c t : Int) : Int := lwV M n c t 2 (nmV M n c 5) 9999
theorem m_pressesX {x y z : Int} {M : Me} (h : HY M) {n : Nat} (hn : M 430 14 = (n : Int)) (hn12 : n ≤ 12) {c : Int} (hc : 0 ≤ c ∧ c < 12) : Con kX11_pressesOf 4 0 0 [(1, 429), (0, c)] (Sf x y z) M (Ex (some (0, lwP M n c)) (Sf x y z) (lxM M n c (M 430 2) 0)) := by
  by_cases q0 : 0 ≤ M 430 2
  · have ht := h.2.2 _ q0 h.2.1
    exact m_pressesOf h.1 hn hn12 hc (cn := cnO M (M 430 2)) (fun q => (Int.toNat_of_nonneg ht.1.1).symm) (by show (M 432 (705 * M 430 2)).toNat ≤ 24; omega) (fun q l hl e => LOK.of h.1 hn12 hc ((ht.2 l (by have : l < (M 432 (705 * M 430 2)).toNat := hl; omega)).2.1 (by rw [e]; decide)))
  · have e : ∀ cn : Nat, lwP M n c = syV (nmA M n c) (M 430 2) 0 (if nmV M n c 3 = 2 then 1 else M 430 13 / 2) 9 cn := fun cn => (syV_n (by omega)).trans (syV_n (by omega)).symm
    have e2 : ∀ cn : Nat, lxM M n c (M 430 2) 0 = syM (nmA M n c) (M 430 2) 0 cn := fun cn => (syM_n (by omega)).trans (syM_n (by omega)).symm
    rw [e 0, e2 0]
    exact m_pressesOf h.1 hn hn12 hc (fun q => absurd q q0) (by decide) (fun q => absurd q q0)
theorem m_scorchesX {x y z : Int} {M : Me} (h : HY M) {n : Nat} (hn : M 430 14 = (n : Int)) (hn12 : n ≤ 12) {c : Int} (hc : 0 ≤ c ∧ c < 12) : Con kX11_scorchesOf 4 0 0 [(1, 429), (0, c)] (Sf x y z) M (Ex (some (0, lwS M n c)) (Sf x y z) (lxM M n c (M 430 2) 1)) := by
  by_cases q0 : 0 ≤ M 430 2
  · have ht := h.2.2 _ q0 h.2.1
    exact m_scorchesOf h.1 hn hn12 hc (cn := cnO M (M 430 2)) (fun q => (Int.toNat_of_nonneg ht.1.1).symm) (by show (M 432 (705 * M 430 2)).toNat ≤ 24; omega) (fun q l hl e => LOK.of h.1 hn12 hc ((ht.2 l (by have : l < (M 432 (705 * M 430 2)).toNat := hl; omega)).2.1 (by rw [e]; decide)))
  · have e : ∀ cn : Nat, lwS M n c = syV (nmA M n c) (M 430 2) 1 (M 430 13 - 6) 10 cn := fun cn => (syV_n (by omega)).trans (syV_n (by omega)).symm
    have e2 : ∀ cn : Nat, lxM M n c (M 430 2) 1 = syM (nmA M n c) (M 430 2) 1 cn := fun cn => (syM_n (by omega)).trans (syM_n (by omega)).symm
    rw [e 0, e2 0]
    exact m_scorchesOf h.1 hn hn12 hc (fun q => absurd q q0) (by decide) (fun q => absurd q q0)
theorem m_priceX {x y z : Int} {M : Me} (h : HY M) {n : Nat} (hn : M 430 14 = (n : Int)) (hn12 : n ≤ 12) {c : Int} (hc : 0 ≤ c ∧ c < 12) {t : Int} (h1 : t < M 430 1) : Con kX11_priceOf 4 0 0 [(1, 429), (0, t), (0, c)] (Sf x y z) M (Ex (some (0, lwC M n c t)) (Sf x y z) (lxM M n c t 2)) := by
  have h14 := wa_1 h.1
  by_cases q0 : 0 ≤ t
  · have ht := h.2.2 _ q0 h1
    exact m_priceOf (by omega) h.1 hn hn12 hc (cn := cnO M t) (fun q => (Int.toNat_of_nonneg ht.1.1).symm) (by show (M 432 (705 * t)).toNat ≤ 24; omega) (fun q l hl e => LOK.of h.1 hn12 hc ((ht.2 l (by have : l < (M 432 (705 * t)).toNat := hl; omega)).2.1 (by rw [e]; decide)))
  · have e : ∀ cn : Nat, lwC M n c t = syV (nmA M n c) t 2 (nmV M n c 5) 9999 cn := fun cn => (syV_n (by omega)).trans (syV_n (by omega)).symm
    have e2 : ∀ cn : Nat, lxM M n c t 2 = syM (nmA M n c) t 2 cn := fun cn => (syM_n (by omega)).trans (syM_n (by omega)).symm
    rw [e 0, e2 0]
    exact m_priceOf (by omega) h.1 hn hn12 hc (fun q => absurd q q0) (by decide) (fun q => absurd q q0)
