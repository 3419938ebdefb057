theorem op_hanging {M : Me} (h : INV M) {c : Int} : OpR kX10_hanging kX11_hanging 1 2 [(0, c)] M := by
  obtain ⟨hn, hn12⟩ := h.1.hy.n
  have c3 : M 50 3 = (nC M : Int) := h.1.sc.2.1.2.2.2.1.trans hn
  have s := h.1.sc
  have w0 := wa_0 h.1.hy.1
  have w14 := wa_14 h.1.hy.1
  have w12 := wa_12 h.1.hy.1
  have he : ∀ i : Int, 0 ≤ i → i < 30 → 0 ≤ M 430 (2112 + i) ∧ M 430 (2112 + i) < 1000000 := fun i g0 g1 => by have := wk_0 h.1.hy.1 (c := i) ⟨g0, g1⟩; omega
  have hyy : ∀ c : Int, 0 ≤ c → c < nC M → 0 ≤ M 430 (15 + 7 * c + 3) ∧ M 430 (15 + 7 * c + 3) ≤ 99 := fun c g0 g1 => wc_3 h.1.hy.1 (by omega)
  refine OpR.rd (v := some (0, fhgV M c)) h (fun x y z => f_hanging h.1.ci) (fun x y z => (m_hanging w14 hn hn12).at (fun v9 S9 M9 q => ?_))
  unfold fhgV
  rw [s.2.1.2.2.2.1]
  rcases q with ⟨q0, ⟨q1, q2, q3⟩ | ⟨q1, q2, q3⟩⟩
  · exact ⟨q2.trans (by rw [if_pos (by omega), v_ha h.1 hn (by omega)]), q0, q3⟩
  · exact ⟨q2.trans (by rw [if_neg (by omega)]), q0, q3⟩
theorem op_foretold {M : Me} (h : INV M) {k c : Int} : OpR kX10_foretold kX11_foretold 3 2 [(0, k), (0, c)] M := by
  obtain ⟨hn, hn12⟩ := h.1.hy.n
  have c3 : M 50 3 = (nC M : Int) := h.1.sc.2.1.2.2.2.1.trans hn
  have s := h.1.sc
  have w0 := wa_0 h.1.hy.1
  have w14 := wa_14 h.1.hy.1
  have w12 := wa_12 h.1.hy.1
  have he : ∀ i : Int, 0 ≤ i → i < 30 → 0 ≤ M 430 (2112 + i) ∧ M 430 (2112 + i) < 1000000 := fun i g0 g1 => by have := wk_0 h.1.hy.1 (c := i) ⟨g0, g1⟩; omega
  have hyy : ∀ c : Int, 0 ≤ c → c < nC M → 0 ≤ M 430 (15 + 7 * c + 3) ∧ M 430 (15 + 7 * c + 3) ≤ 99 := fun c g0 g1 => wc_3 h.1.hy.1 (by omega)
  refine OpR.rd (v := some (0, fftV M k c)) h (fun x y z => f_foretold h.1.ci) (fun x y z => (m_foretold w14 (wa_10 h.1.hy.1) (fun c g0 g1 => wc_0 h.1.hy.1 (by omega))).at (fun v9 S9 M9 q => ?_))
  rw [v_fo h.1 h.2.1]
  rcases q with ⟨q0, ⟨q1, q2, q3⟩ | ⟨q1, q2, q3⟩⟩
  · exact ⟨q2.trans (by rw [if_pos q1]), q0, q3⟩
  · exact ⟨q2.trans (by rw [if_neg q1]), q0, q3⟩
theorem op_eldest {M : Me} (h : INV M) {p : Int} : OpR kX10_eldest kX11_eldest 3 2 [(0, p)] M := by
  obtain ⟨hn, hn12⟩ := h.1.hy.n
  have c3 : M 50 3 = (nC M : Int) := h.1.sc.2.1.2.2.2.1.trans hn
  have s := h.1.sc
  have w0 := wa_0 h.1.hy.1
  have w14 := wa_14 h.1.hy.1
  have w12 := wa_12 h.1.hy.1
  have he : ∀ i : Int, 0 ≤ i → i < 30 → 0 ≤ M 430 (2112 + i) ∧ M 430 (2112 + i) < 1000000 := fun i g0 g1 => by have := wk_0 h.1.hy.1 (c := i) ⟨g0, g1⟩; omega
  have hyy : ∀ c : Int, 0 ≤ c → c < nC M → 0 ≤ M 430 (15 + 7 * c + 3) ∧ M 430 (15 + 7 * c + 3) ≤ 99 := fun c g0 g1 => wc_3 h.1.hy.1 (by omega)
  refine OpR.rd (v := some (0, felV M (nC M) p)) h (fun x y z => f_eldest h.1.ci c3 hn12) (fun x y z => (m_eldest w0 hn hn12).at (fun v9 S9 M9 q => ?_))
  unfold felV
  rw [s.2.1.2.2.1, v_el h.1 hn]
  rcases q with ⟨q0, ⟨q1, q2, q3⟩ | ⟨q1, q2, q3⟩⟩
  · exact ⟨q2.trans (by rw [if_pos (by omega)]), q0, q3⟩
  · exact ⟨q2.trans (by rw [if_neg (by omega)]), q0, q3⟩
theorem op_blank {M : Me} (h : INV M) : OpR kX10_blank kX11_blank 2 3 [] M := by
  obtain ⟨hn, hn12⟩ := h.1.hy.n
  have c3 : M 50 3 = (nC M : Int) := h.1.sc.2.1.2.2.2.1.trans hn
  have s := h.1.sc
  have w0 := wa_0 h.1.hy.1
  have w14 := wa_14 h.1.hy.1
  have w12 := wa_12 h.1.hy.1
  have he : ∀ i : Int, 0 ≤ i → i < 30 → 0 ≤ M 430 (2112 + i) ∧ M 430 (2112 + i) < 1000000 := fun i g0 g1 => by have := wk_0 h.1.hy.1 (c := i) ⟨g0, g1⟩; omega
  have hyy : ∀ c : Int, 0 ≤ c → c < nC M → 0 ≤ M 430 (15 + 7 * c + 3) ∧ M 430 (15 + 7 * c + 3) ≤ 99 := fun c g0 g1 => wc_3 h.1.hy.1 (by omega)
  obtain ⟨np, hp⟩ := Int.eq_ofNat_of_zero_le w0.1
  have hp : M 430 0 = (np : Int) := hp
  refine OpR.rd h (fun x y z => f_blank c3 hn12 (np := np) (s.2.1.2.2.1.trans hp) (by omega)) (fun x y z => ?_)
  have := m_blank (x := x) (y := y) (z := z) hn hn12 (n5 := np) hp (by omega)
  rw [v_bl h.1 hn]
  exact this
theorem op_shared {M : Me} (h : INV M) {p q : Int} : OpR kX10_shared kX11_shared 3 3 [(0, p), (0, q)] M := by
  obtain ⟨hn, hn12⟩ := h.1.hy.n
  have c3 : M 50 3 = (nC M : Int) := h.1.sc.2.1.2.2.2.1.trans hn
  have s := h.1.sc
  have w0 := wa_0 h.1.hy.1
  have w14 := wa_14 h.1.hy.1
  have w12 := wa_12 h.1.hy.1
  have he : ∀ i : Int, 0 ≤ i → i < 30 → 0 ≤ M 430 (2112 + i) ∧ M 430 (2112 + i) < 1000000 := fun i g0 g1 => by have := wk_0 h.1.hy.1 (c := i) ⟨g0, g1⟩; omega
  have hyy : ∀ c : Int, 0 ≤ c → c < nC M → 0 ≤ M 430 (15 + 7 * c + 3) ∧ M 430 (15 + 7 * c + 3) ≤ 99 := fun c g0 g1 => wc_3 h.1.hy.1 (by omega)
  refine OpR.rd (v := some (0, fshV M (nC M) p q)) h (fun x y z => f_shared h.1.ci c3 hn12) (fun x y z => (m_shared w0 hn hn12 hyy).at (fun v9 S9 M9 q => ?_))
  unfold fshV
  rw [s.2.1.2.2.1, v_te h.1 hn, v_te h.1 hn]
  rcases q with ⟨q0, ⟨q1, q2, q3⟩ | ⟨q1, q2, q3⟩⟩
  · exact ⟨q2.trans (by rw [if_neg (by omega)]), q0, q3⟩
  · exact ⟨q2.trans (by rw [if_pos (by omega)]), q0, q3⟩
theorem op_befell {M : Me} (h : INV M) {c u : Int} : OpR kX10_befell kX11_befell 1 2 [(0, c), (0, u)] M := by
  obtain ⟨hn, hn12⟩ := h.1.hy.n
  have c3 : M 50 3 = (nC M : Int) := h.1.sc.2.1.2.2.2.1.trans hn
  have s := h.1.sc
  have w0 := wa_0 h.1.hy.1
  have w14 := wa_14 h.1.hy.1
  have w12 := wa_12 h.1.hy.1
  have he : ∀ i : Int, 0 ≤ i → i < 30 → 0 ≤ M 430 (2112 + i) ∧ M 430 (2112 + i) < 1000000 := fun i g0 g1 => by have := wk_0 h.1.hy.1 (c := i) ⟨g0, g1⟩; omega
  have hyy : ∀ c : Int, 0 ≤ c → c < nC M → 0 ≤ M 430 (15 + 7 * c + 3) ∧ M 430 (15 + 7 * c + 3) ≤ 99 := fun c g0 g1 => wc_3 h.1.hy.1 (by omega)
  obtain ⟨nb, hb⟩ := Int.eq_ofNat_of_zero_le w12.1
  have hb : M 430 12 = (nb : Int) := hb
  refine OpR.rd (v := some (0, fblV M nb c u)) h (fun x y z => f_befell h.1.ci (s.2.1.2.2.2.2.trans hb) (by omega)) (fun x y z => (m_befell w14 (n := nb) hb (by omega) he).at (fun v9 S9 M9 q => ?_))
  unfold fblV
  rw [s.2.1.2.2.2.1, v_be h.1 hb]
  rcases q with ⟨q0, ⟨q1, q2, q3⟩ | ⟨q1, q2, q3⟩⟩
  · exact ⟨q2.trans (by rw [if_pos (by omega)]), q0, q3⟩
  · exact ⟨q2.trans (by rw [if_neg (by omega)]), q0, q3⟩
theorem op_about {M : Me} (h : INV M) {u : Int} : OpR kX10_about kX11_about 0 1 [(0, u)] M := by
  obtain ⟨hn, hn12⟩ := h.1.hy.n
  have c3 : M 50 3 = (nC M : Int) := h.1.sc.2.1.2.2.2.1.trans hn
  have s := h.1.sc
  have w0 := wa_0 h.1.hy.1
  have w14 := wa_14 h.1.hy.1
  have w12 := wa_12 h.1.hy.1
  have he : ∀ i : Int, 0 ≤ i → i < 30 → 0 ≤ M 430 (2112 + i) ∧ M 430 (2112 + i) < 1000000 := fun i g0 g1 => by have := wk_0 h.1.hy.1 (c := i) ⟨g0, g1⟩; omega
  have hyy : ∀ c : Int, 0 ≤ c → c < nC M → 0 ≤ M 430 (15 + 7 * c + 3) ∧ M 430 (15 + 7 * c + 3) ≤ 99 := fun c g0 g1 => wc_3 h.1.hy.1 (by omega)
  obtain ⟨⟨a0, -⟩, ⟨a1, -⟩, ⟨a2, -⟩, ⟨a3, -⟩, ⟨a4, -⟩, ⟨a5, -⟩, -⟩ := h.1.1.2.2.2.2.2.o
  refine OpR.rd (v := some (0, fabV M u)) h (fun x y z => f_about) (fun x y z => m_about.at (fun v9 S9 M9 q => ?_))
  unfold fabV
  rw [s.2.1.2.2.1, s.1.2.1, s.1.2.2, s.2.2, a0, a1, a2, a3, a4, h.1.2.2.2.1.1.1]
  rcases q with ⟨q0, ⟨q1, q2, q3⟩ | ⟨q1, q2, q3⟩ | ⟨q1, q2, q3⟩⟩
  · refine ⟨q2.trans ?_, q0, q3⟩
    rcases (show u = 0 ∨ u = 1 ∨ u = 2 ∨ u = 3 ∨ u = 4 ∨ u = 5 ∨ u = 6 ∨ u = 7 ∨ u = 8 by omega) with w | w | w | w | w | w | w | w | w <;> subst w <;> rfl
  · subst q1; exact ⟨q2, q0, q3⟩
  · exact ⟨q2.trans (by rw [if_neg (by omega), if_neg (by omega), if_neg (by omega), if_neg (by omega), if_neg (by omega), if_neg (by omega), if_neg (by omega), if_neg (by omega), if_neg (by omega), if_neg (by omega)]), q0, q3⟩
theorem op_price {M : Me} (h : INV M) {u : Int} : OpR kX10_price kX11_price 2 0 [(0, u)] M := by
  obtain ⟨hn, hn12⟩ := h.1.hy.n
  have c3 : M 50 3 = (nC M : Int) := h.1.sc.2.1.2.2.2.1.trans hn
  have s := h.1.sc
  have w0 := wa_0 h.1.hy.1
  have w14 := wa_14 h.1.hy.1
  have w12 := wa_12 h.1.hy.1
  have he : ∀ i : Int, 0 ≤ i → i < 30 → 0 ≤ M 430 (2112 + i) ∧ M 430 (2112 + i) < 1000000 := fun i g0 g1 => by have := wk_0 h.1.hy.1 (c := i) ⟨g0, g1⟩; omega
  have hyy : ∀ c : Int, 0 ≤ c → c < nC M → 0 ≤ M 430 (15 + 7 * c + 3) ∧ M 430 (15 + 7 * c + 3) ≤ 99 := fun c g0 g1 => wc_3 h.1.hy.1 (by omega)
  obtain ⟨-, -, -, -, ⟨a4, b4⟩, -, -⟩ := h.1.1.2.2.2.2.2.o
  have w8 := wa_8 h.1.hy.1
  obtain ⟨no, ho⟩ := Int.eq_ofNat_of_zero_le w8.1
  have ho : M 430 8 = (no : Int) := ho
  refine OpR.rd (v := some (0, fprV M no u)) h (fun x y z => f_price (a4.trans ho) (by omega) (fun k g0 g1 => by rw [b4 k g0 (by omega)]; exact wo_0 h.1.hy.1 (by omega))) (fun x y z => (m_price ho (by omega)).at (fun v9 S9 M9 q => ?_))
  rw [v_pr h.1 ho]
  rcases q with ⟨q0, ⟨q1, q2, q3⟩ | ⟨q1, q2, q3⟩⟩
  · exact ⟨q2.trans (by rw [if_neg q1]), q0, q3⟩
  · exact ⟨q2.trans (by rw [if_pos q1]), q0, q3⟩
theorem op_wrongly {M : Me} (h : INV M) {n l a b f : Int} : OpR kX10_wrongly kX11_wrongly 2 1 [(0, n), (0, l), (0, a), (0, b), (0, f)] M := by
  refine OpR.rd (v := some (2, fwV n l a b f)) h (fun x y z => f_wrongly) (fun x y z => m_wrongly.at (fun v9 S9 M9 q => ?_))
  unfold fwV
  rcases q with ⟨q0, ⟨q1, q2, q3⟩ | ⟨q1, q2, q3⟩⟩
  · exact ⟨q2.trans (by rw [if_pos q1]), q0, q3⟩
  · exact ⟨q2.trans (by rw [if_neg q1]), q0, q3⟩
