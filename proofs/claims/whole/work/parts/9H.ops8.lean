theorem rlR.tape {C A C' A' : Me} (h : rlR C A) (hC : ∀ a j : Int, ¬ scrC a → a ≠ 2 → a ≠ 3 → C' a j = C a j) (h10 : ∀ j : Int, C' 10 j = C 10 j) (hA : ∀ a j : Int, 430 ≤ a → a ≤ 432 → A' a j = A a j) (hD : rlD C' A') : rlR C' A' := by
  obtain ⟨h1, h2, h3, h4, h5, h6, h7, h8, h9⟩ := h
  have w1 := wa_1 h6.1
  have e : ∀ a : Int, 430 ≤ a → a ≤ 432 → A' a = A a := fun a q0 q1 => funext fun j => hA a j q0 q1
  refine ⟨h1.of (wr_a h6.1) (fun a j q0 q1 => hC a j (by unfold scrC; omega) (by omega) (by omega)) (fun j _ _ => hA 430 j (by decide) (by decide)) (fun j _ => hA 430 j (by decide) (by decide)), h2.of (wr_i h7) (fun a j q0 q1 => hC a j (by unfold scrC; omega) (by omega) (by omega)) (fun j _ _ => hA 431 j (by decide) (by decide)) (fun j _ => hA 431 j (by decide) (by decide)), ?_, hD, ⟨fun t g0 g1 => ?_, fun j g0 g1 => by rw [h10 j]; exact h5.2 j g0 g1⟩, h6.of ?_ (hA 430 1 (by decide) (by decide)) (hA 430 2 (by decide) (by decide)) (e 432 (by decide) (by decide)), ?_, ?_, ?_⟩
  · unfold rlXs
    rw [e 430 (by decide) (by decide), e 432 (by decide) (by decide)]
    exact fun t g0 g1 => (h3 t g0 g1).of (fun a j q0 q1 => hC a j (by unfold scrC; omega) (by omega) (by omega))
  · rw [hC (15 + 8 * t) 1 (by unfold scrC; omega) (by omega) (by omega), hC (15 + 8 * t) 0 (by unfold scrC; omega) (by omega) (by omega)]
    exact h5.1 t g0 g1
  · unfold WA; rw [e 430 (by decide) (by decide)]; exact h6.1
  · unfold WI; rw [e 431 (by decide) (by decide)]; exact h7
  · rw [e 431 (by decide) (by decide), e 430 (by decide) (by decide)]; exact h8
  · rw [e 431 (by decide) (by decide)]; exact h9
theorem rlD.one {C A : Me} (h : rlD C A) {b k : Int} (hk : A 429 4 = k) (hk3 : k + 1 ≤ 300) (hb : 0 ≤ b ∧ b ≤ 255) : rlD (oneC C b k) (oneA A b k) ∧ oneA A b k 429 4 = k + 1 := by
  obtain ⟨⟨a0, a1, a2⟩, b1, b2, b3⟩ := h
  refine ⟨⟨⟨?_, ?_, ?_⟩, ?_, ?_, fun j g0 g1 => ?_⟩, up_eq ⟨rfl, rfl⟩⟩
  · exact (up_eq ⟨rfl, rfl⟩).trans (up_eq ⟨rfl, rfl⟩).symm
  · rw [show oneA A b k 429 4 = k + 1 from up_eq ⟨rfl, rfl⟩]; omega
  · rw [show oneA A b k 429 4 = k + 1 from up_eq ⟨rfl, rfl⟩]; omega
  · exact (up_ne (by omega)).trans ((up_ne (by omega)).trans (b1.trans ((up_ne (by omega)).trans (up_ne (by omega))).symm))
  · exact (up_ne (by omega)).trans ((up_ne (by omega)).trans (b2.trans ((up_ne (by omega)).trans (up_ne (by omega))).symm))
  · rw [show oneA A b k 429 4 = k + 1 from up_eq ⟨rfl, rfl⟩] at g1
    by_cases q : j = k
    · have eC : oneC C b k 3 j = b := (up_ne (by omega)).trans (up_eq ⟨rfl, q⟩)
      have eA : oneA A b k 433 j = b := (up_ne (by omega)).trans (up_eq ⟨rfl, q⟩)
      rw [eC, eA]; exact ⟨rfl, hb⟩
    · have eC : oneC C b k 3 j = C 3 j := (up_ne (by omega)).trans (up_ne (by omega))
      have eA : oneA A b k 433 j = A 433 j := (up_ne (by omega)).trans (up_ne (by omega))
      rw [eC, eA]; exact b3 j g0 (by omega)
theorem rlD.four {C A : Me} (h : rlD C A) {v k : Int} (hk : A 429 4 = k) (hk3 : k + 4 ≤ 300) : rlD (fourC C v k) (fourA A v k) ∧ fourA A v k 429 4 = k + 4 := by
  have b : ∀ s : Int, 0 ≤ and32 (shr32 v s) 255 ∧ and32 (shr32 v s) 255 ≤ 255 := fun s => and32_nn (by decide)
  obtain ⟨h1, e1⟩ := h.one hk (by omega) (b 24)
  obtain ⟨h2, e2⟩ := h1.one e1 (by omega) (b 16)
  obtain ⟨h3, e3⟩ := h2.one e2 (by omega) (b 8)
  obtain ⟨h4, e4⟩ := h3.one e3 (by omega) (b 0)
  exact ⟨h4, fourA_4⟩
theorem op_end {M : Me} (h : INV M) {c : Int} : OpR kX10_end kX11_end 1 1 [(0, c)] M := by
  have d := h.1.2.2.2.1
  by_cases q : 0 ≤ c ∧ c ≤ M 429 4
  · have c9 : ∀ x y z : Int, Con kX10_end 1 0 0 [(1, 0), (0, c)] (Sf x y z) M (Ex (some (0, c)) (Sf x y z) (up M 2 0 c)) := fun x y z => by
      have k9 := f_end (x := x) (y := y) (z := z) (M := M) (h := c)
      rwa [show shV M c = c from if_pos (by rw [d.1.1]; exact q), show shM M c = up M 2 0 c from if_pos (by rw [d.1.1]; exact q)] at k9
    refine OpR.mk (f := up M 2 0 c) (g := up (up M 2 0 c) 429 4 c) (v := some (0, c)) h (fun x y z => ⟨x, y, z, c9 x y z⟩) (fun a j w => up_ne (by omega)) (fun h1 x y z => ?_) (fun _ a j w => up_ne (by omega)) (fun h1 => ?_) (fun h1 d0 d1 => ⟨d0.row (fun j => up_ne (by omega)), d1.row (fun j => up_ne (by omega))⟩)
    · refine m_end.at (fun v9 S9 M9 p => ?_)
      rw [up_ne (show ¬ ((429 : Int) = 2 ∧ (4 : Int) = 0) by omega)] at p
      rcases p with ⟨q0, ⟨p1, p2, p3⟩ | ⟨p1, p2, p3⟩⟩
      · exact ⟨p2, q0, p3⟩
      · exact absurd q p1
    · have goal : ∀ f : Me, rlR M f → c ≤ f 429 4 → rlR (up M 2 0 c) (up f 429 4 c) := fun f hf hl => by
        obtain ⟨⟨a0, a1, a2⟩, b1, b2, b3⟩ := hf.2.2.2.1
        refine hf.tape (fun a j _ w _ => up_ne (by omega)) (fun j => up_ne (by omega)) (fun a j w _ => up_ne (by omega)) ⟨⟨?_, ?_, ?_⟩, ?_, ?_, fun j g0 g1 => ?_⟩
        · exact (up_eq ⟨rfl, rfl⟩).trans (up_eq ⟨rfl, rfl⟩).symm
        · rw [up_eq ⟨rfl, rfl⟩]; exact q.1
        · rw [up_eq ⟨rfl, rfl⟩]; omega
        · rw [up_ne (by omega), up_ne (by omega)]; exact b1
        · rw [up_ne (by omega), up_ne (by omega)]; exact b2
        · rw [up_eq ⟨rfl, rfl⟩] at g1
          rw [up_ne (by omega), up_ne (by omega)]; exact b3 j g0 (by omega)
      exact goal _ h1 (by rw [up_ne (by omega)]; exact q.2)
  · refine OpR.rd (v := some (0, -1)) h (fun x y z => ?_) (fun x y z => m_end.at (fun v9 S9 M9 p => ?_))
    · have k9 := f_end (x := x) (y := y) (z := z) (M := M) (h := c)
      rwa [show shV M c = -1 from if_neg (by rw [d.1.1]; exact q), show shM M c = M from if_neg (by rw [d.1.1]; exact q)] at k9
    · rcases p with ⟨q0, ⟨p1, p2, p3⟩ | ⟨p1, p2, p3⟩⟩
      · exact absurd p1 q
      · exact ⟨p2, q0, p3⟩
theorem op_feed {M : Me} (h : INV M) {v1 v2 v3 v4 v5 : Int} : OpR kX10_feed kX11_feed 1 1 [(0, v1), (0, v2), (0, v3), (0, v4), (0, v5)] M := by
  have d := h.1.2.2.2.1
  generalize hk : M 429 4 = k at d
  have k2 : M 2 0 = k := d.1.1.trans hk
  have c9 := fun x y z : Int => f_feed (x := x) (y := y) (z := z) (M := M) (v1 := v1) (v2 := v2) (v3 := v3) (v4 := v4) (v5 := v5) k2 (by have := d.1; omega)
  by_cases q : k + 20 ≤ 300
  · have fo : ∀ a j : Int, a ≠ 2 → a ≠ 3 → (fourC (fourC (fourC (fourC (fourC M v1 (k)) v2 (k + 4)) v3 (k + 4 + 4)) v4 (k + 4 + 4 + 4)) v5 (k + 4 + 4 + 4 + 4)) a j = M a j := fun a j q0 q1 => (fourC_o (by omega)).trans ((fourC_o (by omega)).trans ((fourC_o (by omega)).trans ((fourC_o (by omega)).trans (fourC_o (by omega)))))
    have ev : ∀ f : Me, rlR M f → f 429 4 = k → rlD (fourC (fourC (fourC (fourC (fourC M v1 (k)) v2 (k + 4)) v3 (k + 4 + 4)) v4 (k + 4 + 4 + 4)) v5 (k + 4 + 4 + 4 + 4)) (fourA (fourA (fourA (fourA (fourA f v1 (k)) v2 (k + 4)) v3 (k + 4 + 4)) v4 (k + 4 + 4 + 4)) v5 (k + 4 + 4 + 4 + 4)) := fun f hf e => by
      obtain ⟨h1, e1⟩ := hf.2.2.2.1.four (v := v1) e (by omega)
      obtain ⟨h2, e2⟩ := h1.four (v := v2) e1 (by omega)
      obtain ⟨h3, e3⟩ := h2.four (v := v3) e2 (by omega)
      obtain ⟨h4, e4⟩ := h3.four (v := v4) e3 (by omega)
      exact (h4.four (v := v5) e4 (by omega)).1
    have c8 : ∀ x y z : Int, Con kX10_feed 1 0 0 ((1, 0) :: [(0, v1), (0, v2), (0, v3), (0, v4), (0, v5)]) (Sf x y z) M (Ex (some (0, k + 4 + 4 + 4 + 4 + 4)) (Sf x y z) (fourC (fourC (fourC (fourC (fourC M v1 (k)) v2 (k + 4)) v3 (k + 4 + 4)) v4 (k + 4 + 4 + 4)) v5 (k + 4 + 4 + 4 + 4))) := fun x y z => by
      have k9 := c9 x y z
      rwa [show feV k = k + 4 + 4 + 4 + 4 + 4 from if_pos q, show feM M v1 v2 v3 v4 v5 k = (fourC (fourC (fourC (fourC (fourC M v1 (k)) v2 (k + 4)) v3 (k + 4 + 4)) v4 (k + 4 + 4 + 4)) v5 (k + 4 + 4 + 4 + 4)) from if_pos q] at k9
    generalize hf : (fourC (fourC (fourC (fourC (fourC M v1 (k)) v2 (k + 4)) v3 (k + 4 + 4)) v4 (k + 4 + 4 + 4)) v5 (k + 4 + 4 + 4 + 4)) = f at fo ev c8
    have f4 := (fo 429 4 (by decide) (by decide)).trans hk
    have go : ∀ a j : Int, ¬ (a = 429 ∧ j = 4) → a ≠ 433 → (fourA (fourA (fourA (fourA (fourA f v1 (k)) v2 (k + 4)) v3 (k + 4 + 4)) v4 (k + 4 + 4 + 4)) v5 (k + 4 + 4 + 4 + 4)) a j = f a j := fun a j q0 q1 => (fourA_o (by omega)).trans ((fourA_o (by omega)).trans ((fourA_o (by omega)).trans ((fourA_o (by omega)).trans (fourA_o (by omega)))))
    refine OpR.mk (f := f) (g := (fourA (fourA (fourA (fourA (fourA f v1 (k)) v2 (k + 4)) v3 (k + 4 + 4)) v4 (k + 4 + 4 + 4)) v5 (k + 4 + 4 + 4 + 4))) (v := some (0, k + 4 + 4 + 4 + 4 + 4)) h (fun x y z => ⟨x, y, z, c8 x y z⟩) (fun a j w => fo a j (by omega) (by omega)) (fun h1 x y z => ?_) (fun _ a j w => go a j (by omega) (by omega)) (fun h1 => ?_) (fun h1 d0 d1 => ⟨d0.row (fun j => go 430 j (by omega) (by decide)), d1.row (fun j => go 431 j (by omega) (by decide))⟩)
    · refine (m_feed f4 (by have := d.1; omega)).at (fun v9 S9 M9 p => ?_)
      rcases p with ⟨q0, ⟨p1, p2, p3⟩ | ⟨p1, p2, p3⟩⟩
      · exact ⟨p2, q0, p3⟩
      · exact absurd q p1
    · have goal : ∀ f9 : Me, rlR M f9 → rlD f f9 → (∀ a j : Int, 430 ≤ a → a ≤ 432 → f9 a j = f a j) → rlR f f9 := fun f9 hf9 hd _ => hf9.tape (fun a j _ w0 w1 => fo a j w0 w1) (fun j => fo 10 j (by decide) (by decide)) (fun a j w0 w1 => rfl) hd
      exact h1.tape (fun a j _ w0 w1 => fo a j w0 w1) (fun j => fo 10 j (by decide) (by decide)) (fun a j w0 w1 => go a j (by omega) (by omega)) (ev f h1 f4)
  · refine OpR.rd (v := some (0, -1)) h (fun x y z => ?_) (fun x y z => (m_feed hk (by have := d.1; omega)).at (fun v9 S9 M9 p => ?_))
    · have k9 := c9 x y z
      rwa [show feV k = -1 from if_neg q, show feM M v1 v2 v3 v4 v5 k = M from if_neg q] at k9
    · rcases p with ⟨q0, ⟨p1, p2, p3⟩ | ⟨p1, p2, p3⟩⟩
      · exact absurd p1 q
      · exact ⟨p2, q0, p3⟩
