/-! the JDK's own: Math, System.arraycopy -/
section NAT
variable {k : MI} {c1 c2 dd : Nat} {xs : Option (List Int)} {Q : Option AV → Sh → Me → Prop} {pc index : Nat} {al st : List AV} {S : Sh} {M M' : Me} {n1 n2 : Nat} {x y z : Int}
theorem r_mmax (d : decode k.2.1 pc = .ok (.invokestatic index, 3)) (w1 : Cond.methodLink k.1.cls index Lib.Math.max.name ∈ gw) (w2 : Cond.static Lib.Math.max.name ∈ gw) (w3 : Cond.initialized "java/lang/Math" ∈ gw) (w4 : Cond.code Lib.Math.max.name Lib.Math.max.code 2 (some .int) ∈ gw) (hd : 1 ≤ dd) (h8 : cS st ≤ 8) (hz : max x y = z) (kk : V k c1 c2 dd xs Q (pc + 3) al ((0, z) :: st) S M n1 n2) : V k c1 c2 dd xs Q pc al ((0, y) :: (0, x) :: st) S M n1 n2 := by
  subst hz
  intro p l e R s m args below meth c b κ D sc Tg H locs ls Cc F hn12 hW hL ho hS
  obtain ⟨⟨hx, hb, hml, hown, hnm, hlk⟩, hts, ⟨hr1, hr2, hr3, hr4⟩, hb0, hK, hN, hSt, hSc⟩ := id Cc
  have hy1 := (ok2 ho.2).1.1 rfl
  have hx1 := (ok2 ho.2).2.1.1 rfl
  dsimp only at hx1 hy1
  have h9 := cS_eq b sc st
  refine va_mmax (x := Int32.ofInt x) (y := Int32.ofInt y) (rest := st.map (cv b sc)) hx hb (by rw [hml]; exact hL.1.symm) hown (hts _ w1) (hts _ w2) (hts _ w3) (hts _ w4) (by omega) (by omega) (by omega) (by omega) d ?_
  have e9 : (if Int32.ofInt x < Int32.ofInt y then Int32.ofInt y else Int32.ofInt x) = Int32.ofInt (max x y) := by
    by_cases h : x < y
    · rw [if_pos ((oI_lt hx1 hy1).mpr h)]; congr 1; omega
    · rw [if_neg (fun q => h ((oI_lt hx1 hy1).mp q))]; congr 1; omega
  rw [e9]
  exact kk p l e R s m args below meth c b κ D sc Tg H locs ls Cc F hn12 hW hL ⟨ho.1, okL_cons.mpr ⟨okA_i (by omega), (ok2 ho.2).2.2⟩⟩ hS
theorem r_lmax (d : decode k.2.1 pc = .ok (.invokestatic index, 3)) (w1 : Cond.methodLink k.1.cls index Lib.MathLoose.max_long.x ∈ gw) (w2 : Cond.static Lib.MathLoose.max_long.x ∈ gw) (w3 : Cond.initialized "java/lang/Math" ∈ gw) (w4 : Cond.code Lib.MathLoose.max_long.x Lib.MathLoose.max_long.code 4 (some .long) ∈ gw) (hd : 1 ≤ dd) (h8 : cS st ≤ 8) (hz : max x y = z) (kk : V k c1 c2 dd xs Q (pc + 3) al ((2, z) :: st) S M n1 n2) : V k c1 c2 dd xs Q pc al ((2, y) :: (2, x) :: st) S M n1 n2 := by
  subst hz
  intro p l e R s m args below meth c b κ D sc Tg H locs ls Cc F hn12 hW hL ho hS
  obtain ⟨⟨hx, hb, hml, hown, hnm, hlk⟩, hts, ⟨hr1, hr2, hr3, hr4⟩, hb0, hK, hN, hSt, hSc⟩ := id Cc
  have hy1 := (ok2 ho.2).1.2 rfl
  have hx1 := (ok2 ho.2).2.1.2 rfl
  dsimp only at hx1 hy1
  have h9 := cS_eq b sc st
  refine va_mmax_long (x := Int64.ofInt x) (y := Int64.ofInt y) (rest := st.map (cv b sc)) hx hb (by rw [hml]; exact hL.1.symm) hown (hts _ w1) (hts _ w2) (hts _ w3) (hts _ w4) (by omega) (by omega) (by omega) (by omega) d ?_
  have e9 : (if Int64.ofInt y < Int64.ofInt x then Int64.ofInt x else Int64.ofInt y) = Int64.ofInt (max x y) := by
    by_cases h : y < x
    · rw [if_pos ((oL_lt hy1 hx1).mpr h)]; congr 1; omega
    · rw [if_neg (fun q => h ((oL_lt hy1 hx1).mp q))]; congr 1; omega
  rw [e9]
  exact kk p l e R s m args below meth c b κ D sc Tg H locs ls Cc F hn12 hW hL ⟨ho.1, okL_cons.mpr ⟨okA_l (by omega), (ok2 ho.2).2.2⟩⟩ hS
theorem r_mmin (d : decode k.2.1 pc = .ok (.invokestatic index, 3)) (w1 : Cond.methodLink k.1.cls index Lib.Math.min.name ∈ gw) (w2 : Cond.static Lib.Math.min.name ∈ gw) (w3 : Cond.initialized "java/lang/Math" ∈ gw) (w4 : Cond.code Lib.Math.min.name Lib.Math.min.code 2 (some .int) ∈ gw) (hd : 1 ≤ dd) (h8 : cS st ≤ 8) (hz : min x y = z) (kk : V k c1 c2 dd xs Q (pc + 3) al ((0, z) :: st) S M n1 n2) : V k c1 c2 dd xs Q pc al ((0, y) :: (0, x) :: st) S M n1 n2 := by
  subst hz
  intro p l e R s m args below meth c b κ D sc Tg H locs ls Cc F hn12 hW hL ho hS
  obtain ⟨⟨hx, hb, hml, hown, hnm, hlk⟩, hts, ⟨hr1, hr2, hr3, hr4⟩, hb0, hK, hN, hSt, hSc⟩ := id Cc
  have hy1 := (ok2 ho.2).1.1 rfl
  have hx1 := (ok2 ho.2).2.1.1 rfl
  dsimp only at hx1 hy1
  have h9 := cS_eq b sc st
  refine va_mmin (x := Int32.ofInt x) (y := Int32.ofInt y) (rest := st.map (cv b sc)) hx hb (by rw [hml]; exact hL.1.symm) hown (hts _ w1) (hts _ w2) (hts _ w3) (hts _ w4) (by omega) (by omega) (by omega) (by omega) d ?_
  have e9 : (if Int32.ofInt y < Int32.ofInt x then Int32.ofInt y else Int32.ofInt x) = Int32.ofInt (min x y) := by
    by_cases h : y < x
    · rw [if_pos ((oI_lt hy1 hx1).mpr h)]; congr 1; omega
    · rw [if_neg (fun q => h ((oI_lt hy1 hx1).mp q))]; congr 1; omega
  rw [e9]
  exact kk p l e R s m args below meth c b κ D sc Tg H locs ls Cc F hn12 hW hL ⟨ho.1, okL_cons.mpr ⟨okA_i (by omega), (ok2 ho.2).2.2⟩⟩ hS
theorem r_lmin (d : decode k.2.1 pc = .ok (.invokestatic index, 3)) (w1 : Cond.methodLink k.1.cls index Lib.MathLoose.min_long.x ∈ gw) (w2 : Cond.static Lib.MathLoose.min_long.x ∈ gw) (w3 : Cond.initialized "java/lang/Math" ∈ gw) (w4 : Cond.code Lib.MathLoose.min_long.x Lib.MathLoose.min_long.code 4 (some .long) ∈ gw) (hd : 1 ≤ dd) (h8 : cS st ≤ 8) (hz : min x y = z) (kk : V k c1 c2 dd xs Q (pc + 3) al ((2, z) :: st) S M n1 n2) : V k c1 c2 dd xs Q pc al ((2, y) :: (2, x) :: st) S M n1 n2 := by
  subst hz
  intro p l e R s m args below meth c b κ D sc Tg H locs ls Cc F hn12 hW hL ho hS
  obtain ⟨⟨hx, hb, hml, hown, hnm, hlk⟩, hts, ⟨hr1, hr2, hr3, hr4⟩, hb0, hK, hN, hSt, hSc⟩ := id Cc
  have hy1 := (ok2 ho.2).1.2 rfl
  have hx1 := (ok2 ho.2).2.1.2 rfl
  dsimp only at hx1 hy1
  have h9 := cS_eq b sc st
  refine va_mmin_long (x := Int64.ofInt x) (y := Int64.ofInt y) (rest := st.map (cv b sc)) hx hb (by rw [hml]; exact hL.1.symm) hown (hts _ w1) (hts _ w2) (hts _ w3) (hts _ w4) (by omega) (by omega) (by omega) (by omega) d ?_
  have e9 : (if Int64.ofInt y < Int64.ofInt x then Int64.ofInt y else Int64.ofInt x) = Int64.ofInt (min x y) := by
    by_cases h : y < x
    · rw [if_pos ((oL_lt hy1 hx1).mpr h)]; congr 1; omega
    · rw [if_neg (fun q => h ((oL_lt hy1 hx1).mp q))]; congr 1; omega
  rw [e9]
  exact kk p l e R s m args below meth c b κ D sc Tg H locs ls Cc F hn12 hW hL ⟨ho.1, okL_cons.mpr ⟨okA_l (by omega), (ok2 ho.2).2.2⟩⟩ hS
theorem r_mabs (d : decode k.2.1 pc = .ok (.invokestatic index, 3)) (w1 : Cond.methodLink k.1.cls index Lib.Math.abs.name ∈ gw) (w2 : Cond.static Lib.Math.abs.name ∈ gw) (w3 : Cond.initialized "java/lang/Math" ∈ gw) (w4 : Cond.code Lib.Math.abs.name Lib.Math.abs.code 1 (some .int) ∈ gw) (hd : 1 ≤ dd) (h8 : cS st ≤ 8) (hz : (if 0 ≤ x then x else w32 (0 - x)) = z) (kk : V k c1 c2 dd xs Q (pc + 3) al ((0, z) :: st) S M n1 n2) : V k c1 c2 dd xs Q pc al ((0, x) :: st) S M n1 n2 := by
  subst hz
  intro p l e R s m args below meth c b κ D sc Tg H locs ls Cc F hn12 hW hL ho hS
  obtain ⟨⟨hx, hb, hml, hown, hnm, hlk⟩, hts, ⟨hr1, hr2, hr3, hr4⟩, hb0, hK, hN, hSt, hSc⟩ := id Cc
  have hx1 := (okL_cons.mp ho.2).1.1 rfl
  dsimp only at hx1
  have h9 := cS_eq b sc st
  refine va_mabs (x := Int32.ofInt x) (rest := st.map (cv b sc)) hx hb (by rw [hml]; exact hL.1.symm) hown (hts _ w1) (hts _ w2) (hts _ w3) (hts _ w4) (by omega) (by omega) (by omega) (by omega) d ?_
  have h01 : -2147483648 ≤ (0 : Int) ∧ (0 : Int) < 2147483648 := by decide
  have e9 : (if 0 ≤ Int32.ofInt x then Int32.ofInt x else 0 - Int32.ofInt x) = Int32.ofInt (if 0 ≤ x then x else w32 (0 - x)) := by
    show (if Int32.ofInt 0 ≤ Int32.ofInt x then Int32.ofInt x else Int32.ofInt 0 - Int32.ofInt x) = _
    by_cases h : 0 ≤ x
    · rw [if_pos ((oI_le h01 hx1).mpr h), if_pos h]
    · rw [if_neg (fun q => h ((oI_le h01 hx1).mp q)), if_neg h, oI_sub]
  rw [e9]
  refine kk p l e R s m args below meth c b κ D sc Tg H locs ls Cc F hn12 hW hL ⟨ho.1, okL_cons.mpr ⟨okA_i ?_, (okL_cons.mp ho.2).2⟩⟩ hS
  split
  · omega
  · exact w32_in _
/-- so many elements of one row over those of another -/
def cpy (M : Me) (a0 sp a dp n : Int) : Me := fun a' j => if a' = a ∧ dp ≤ j ∧ j < dp + n then M a0 (sp + (j - dp)) else M a' j
set_option maxHeartbeats 2000000 in
theorem r_copy {a0 sp a dp n : Int} {l0 l1 : Nat} {r0 r1 : List Int} (d : decode k.2.1 pc = .ok (.invokestatic index, 3)) (w1 : Cond.methodLink k.1.cls index arraycopyName ∈ gw) (w2 : Cond.native arraycopyName ∈ gw) (w3 : Cond.static arraycopyName ∈ gw) (w4 : Cond.initialized "java/lang/System" ∈ gw) (hd : 1 ≤ dd) (h8 : cS st ≤ 8)
    (hS0 : S[a0.toNat]? = some (20, l0, r0)) (hS1 : S[a.toNat]? = some (20, l1, r1)) (ha0 : 0 ≤ a0) (ha : 0 ≤ a) (h1 : 0 ≤ sp) (h2 : 0 ≤ dp) (h3 : 0 ≤ n) (h4 : sp + n ≤ l0) (h5 : dp + n ≤ l1) (hl0 : l0 < 2147483648) (hl1 : l1 < 2147483648) (hM : cpy M a0 sp a dp n = M')
    (kk : V k c1 c2 dd xs Q (pc + 3) al st S M' n1 n2) : V k c1 c2 dd xs Q pc al ((0, n) :: (0, dp) :: (1, a) :: (0, sp) :: (1, a0) :: st) S M n1 n2 := by
  subst hM
  intro p l e R s m args below meth c b κ D sc Tg H locs ls Cc F hn12 hW hL ho hS
  obtain ⟨⟨hx, hb, hml, hown, hnm, hlk⟩, hts, ⟨hr1, hr2, hr3, hr4⟩, hb0, hK, hN, hSt, hSc⟩ := id Cc
  have he0 := toW_at (b := b) (κ := κ) (M := M) hS0
  have he1 := toW_at (b := b) (κ := κ) (M := M) hS1
  have e20 : ∀ (l9 : Nat) (r9 : List Int) (f : Int → Int), ent b κ (20, l9, r9) f = .inl (κ 20, l9, .inl (fun j : Nat => Int32.ofInt (f j))) := fun l9 r9 f => ent_i (q := (20, l9, r9)) (Or.inl rfl)
  rw [e20, Int.toNat_of_nonneg ha0] at he0
  rw [e20, Int.toNat_of_nonneg ha] at he1
  have hAr := (hK.2.1 20 (by decide) (by decide)).1
  have cn : ∀ {z : Int}, 0 ≤ z → z < 2147483648 → (Int32.ofInt z).toNatClampNeg = z.toNat := fun h0 h1 => oI_clamp h0 h1
  have h9 := cS_eq b sc st
  rw [List.map_cons, List.map_cons, List.map_cons, List.map_cons, List.map_cons, cv_ref ha, cv_ref ha0]
  intro T hT X
  have hc0 : H[b + a0.toNat]? = some (vp_cell (κ 20) (l0, .inl (fun j : Nat => Int32.ofInt (M a0 j)))) := hW.1 a0.toNat _ he0
  have hc1 : H[b + a.toNat]? = some (vp_cell (κ 20) (l1, .inl (fun j : Nat => Int32.ofInt (M a j)))) := hW.1 a.toNat _ he1
  obtain ⟨-, k0, hk0, cm0, hkk0⟩ := hAr l0 (fun j => .int (Int32.ofInt (M a0 j)))
  obtain ⟨-, k1, hk1, cm1, hkk1⟩ := hAr l1 (fun j => .int (Int32.ofInt (M a j)))
  obtain ⟨vm', X', step⟩ := X.arraycopy hx hown (hts _ w1) (hts _ w2) (hts _ w3) (hts _ w4) (src := b + a0.toNat) (dst := b + a.toNat) (cs := vp_cell (κ 20) (l0, .inl (fun j : Nat => Int32.ofInt (M a0 j)))) (cd := vp_cell (κ 20) (l1, .inl (fun j : Nat => Int32.ofInt (M a j)))) (srcPos := Int32.ofInt sp) (destPos := Int32.ofInt dp) (n := Int32.ofInt n) (by rw [hT]; exact hc0) (by rw [hT]; exact hc1)
    (fun _ h => by cases h) (fun _ h => by cases h) (fun h => by cases h) (fun h => by cases h) hk0 hk1 hkk0 hkk1 (by rfl) (oI_nneg h1 (by omega)) (oI_nneg h2 (by omega)) (oI_nneg h3 (by omega))
    (by rw [oI_t, oI_t, w32_id (by omega), w32_id (by omega)]; show ¬ _ > ((arrV (κ 20) l0 (fun j => .int (Int32.ofInt (M a0 j)))).slots.size : Int); rw [arrV_size]; omega)
    (by rw [oI_t, oI_t, w32_id (by omega), w32_id (by omega)]; show ¬ _ > ((arrV (κ 20) l1 (fun j => .int (Int32.ofInt (M a j)))).slots.size : Int); rw [arrV_size]; omega)
    (fun vm₁ _ i hi => by
      rw [cn h3 (by omega)] at hi
      have e : (vp_cell (κ 20) (l0, .inl (fun j : Nat => Int32.ofInt (M a0 j)))).slots.getD ((Int32.ofInt sp).toNatClampNeg + i) .null = .int (Int32.ofInt (M a0 ((sp.toNat + i : Nat)))) := by
        show (arrV (κ 20) l0 (fun j => .int (Int32.ofInt (M a0 j)))).slots.getD _ _ = _
        rw [cn h1 (by omega), Array.getD_eq_getD_getElem?, arrV_read _ _ (by omega)]
        rfl
      refine ⟨?_, ?_⟩
      · rw [e]; rfl
      · rw [e]
        exact trivial)
    (g := F0 m pc ls (.int (Int32.ofInt n) :: .int (Int32.ofInt dp) :: .ref (b + a.toNat) :: .int (Int32.ofInt sp) :: .ref (b + a0.toNat) :: st.map (cv b sc))) rfl (by rw [hml]; exact hL.1) (rest := st.map (cv b sc)) rfl (by rw [hb]; exact d) (by omega) (by
      have : nativeFrameWords "java/lang/System" "arraycopy" 5 ≤ 40 := by decide
      show 2 * 0 + _ + _ ≤ _
      omega)
  have ec : copied (vp_cell (κ 20) (l0, .inl (fun j : Nat => Int32.ofInt (M a0 j)))) (vp_cell (κ 20) (l1, .inl (fun j : Nat => Int32.ofInt (M a j)))) (Int32.ofInt sp) (Int32.ofInt dp) (Int32.ofInt n) = vp_cell (κ 20) (l1, .inl (fun j : Nat => Int32.ofInt (cpy M a0 sp a dp n a j))) := by
    have h49 : (Int32.ofInt sp).toNatClampNeg + (Int32.ofInt n).toNatClampNeg ≤ l0 := by rw [cn h1 (by omega), cn h3 (by omega)]; omega
    have ec0 : copied (vp_cell (κ 20) (l0, .inl (fun j : Nat => Int32.ofInt (M a0 j)))) (vp_cell (κ 20) (l1, .inl (fun j : Nat => Int32.ofInt (M a j)))) (Int32.ofInt sp) (Int32.ofInt dp) (Int32.ofInt n) = vp_cell (κ 20) (l1, .inl (va_cpy (fun j : Nat => Int32.ofInt (M a0 j)) (fun j : Nat => Int32.ofInt (M a j)) (Int32.ofInt sp).toNatClampNeg (Int32.ofInt dp).toNatClampNeg (Int32.ofInt n).toNatClampNeg)) := va_copied (fun z => .int z) (κ 20) (κ 20) (fun j : Nat => Int32.ofInt (M a0 j)) (fun j : Nat => Int32.ofInt (M a j)) h49
    rw [ec0]
    rw [vp_cell_i, vp_cell_i, cn h1 (by omega), cn h2 (by omega), cn h3 (by omega)]
    congr 1
    funext j
    unfold va_cpy cpy
    by_cases h : dp.toNat ≤ j ∧ j < dp.toNat + n.toNat
    · rw [if_pos h, if_pos (by omega)]
      have e7 : ((sp.toNat + (j - dp.toNat) : Nat) : Int) = sp + ((j : Int) - dp) := by omega
      dsimp only; rw [e7]
    · rw [if_neg h, if_neg (by omega)]
  rw [ec] at X' step
  have hl : b + a.toNat < H.size := (Array.getElem?_eq_some_iff.mp hc1).1
  generalize hcell : vp_cell (κ 20) (l1, .inl (fun j : Nat => Int32.ofInt (cpy M a0 sp a dp n a j))) = cell at X' step
  have hheap : ((T.setVm vm').setCell (b + a.toNat) cell).heap = H.setIfInBounds (b + a.toNat) cell := by rw [← hT]; rfl
  have oq : ∀ q : Nat, q ≠ b + a.toNat → (H.setIfInBounds (b + a.toNat) cell)[q]? = H[q]? := fun q hq => by simp [Array.getElem?_setIfInBounds, Ne.symm hq]
  have hWd : Wd b κ D S (cpy M a0 sp a dp n) (H.setIfInBounds (b + a.toNat) cell) := by
    refine ⟨?_, by simp; exact hW.2.1, fun i q hi j hj => ?_⟩
    · have hset : toW b κ S (cpy M a0 sp a dp n) = (toW b κ S M).set a.toNat (b + a.toNat, ent b κ (20, l1, r1) (cpy M a0 sp a dp n a)) := by
        apply List.ext_getElem?
        intro i
        by_cases h : i = a.toNat
        · subst h
          rw [toW_at hS1, List.getElem?_set_self (List.getElem?_eq_some_iff.mp (toW_at (b := b) (κ := κ) (M := M) hS1)).1, Int.toNat_of_nonneg ha]
        · rw [List.getElem?_set_ne (Ne.symm h)]
          unfold toW
          rw [List.getElem?_mapIdx, List.getElem?_mapIdx]
          cases hq : S[i]? with
          | none => rfl
          | some q' =>
            have e : cpy M a0 sp a dp n (i : Int) = M i := by
              funext j'
              unfold cpy
              rw [if_neg]
              rintro ⟨q9, -⟩
              apply h; omega
            show some (b + i, ent b κ q' (cpy M a0 sp a dp n i)) = some (b + i, ent b κ q' (M i))
            rw [e]
      rw [hset]
      refine hW.1.set (toW_D _ _ _ _) he1 ?_ oq
      rw [e20]
      show (H.setIfInBounds (b + a.toNat) cell)[b + a.toNat]? = some (vp_cell _ _)
      rw [Array.getElem?_setIfInBounds_self_of_lt hl, ← hcell]
    · unfold cpy
      by_cases h : (i : Int) = a ∧ dp ≤ (j : Int) ∧ (j : Int) < dp + n
      · rw [if_pos h]
        have h7 : i = a.toNat := by omega
        subst h7
        rw [hS1] at hi
        cases hi
        have := Wd_okv hW hS0 ha0 (j := sp + ((j : Int) - dp)) (by omega) (by dsimp only; omega)
        exact this
      · rw [if_neg h]
        exact hW.2.2 i q hi j hj
  obtain ⟨t, a1, b1⟩ := kk p l e R s m args below meth c b κ D sc Tg _ _ ls Cc F hn12 hWd hL ⟨ho.1, (okL_cons.mp (okL_cons.mp (okL_cons.mp (ok2 ho.2).2.2).2).2).2⟩ ⟨by simp; exact hS.1, fun q g1 g2 => by
      rw [oq q (fun e => g2 (by rw [e]; exact Nat.le_add_right _ _))]
      exact hS.2.1 q g1 g2, fun q hq => by
      rcases List.mem_append.mp hq with h | h
      · exact hS.2.2 q h
      · obtain ⟨z, -, hz⟩ := List.mem_map.mp h
        rw [← hz]
        exact Nat.le_add_right _ _⟩ _ hheap X'
  exact ⟨t, step t a1, b1⟩
end NAT
