/-- a Text and its rows lie at q and behind it -/
def TS (S : Sh) (q : Int) : Prop := S[q.toNat]? = some (8, 6, [-1, -1, q + 1, q + 2, q + 3, q + 4]) ∧ S[(q + 1).toNat]? = some (20, 3, []) ∧ S[(q + 2).toNat]? = some (20, 300, []) ∧ S[(q + 3).toNat]? = some (20, 24, []) ∧ S[(q + 4).toNat]? = some (25, 3, [q + 5, q + 6, q + 7]) ∧ S[(q + 5).toNat]? = some (20, 24, []) ∧ S[(q + 6).toNat]? = some (20, 24, []) ∧ S[(q + 7).toNat]? = some (20, 24, []) ∧ (0 ≤ q ∧ q ≤ 39)
set_option maxRecDepth 100000 in
theorem ts_q {x y z t : Int} (h : 0 ≤ t ∧ t < 4) : TS (Sf x y z) (15 + 8 * t) := by
  rcases (show t = 0 ∨ t = 1 ∨ t = 2 ∨ t = 3 by omega) with q | q | q | q <;> subst q <;> exact ⟨rfl, rfl, rfl, rfl, rfl, rfl, rfl, rfl, by decide⟩
theorem tq_r {t : Int} (h : 0 ≤ t ∧ t < 4) : ([15, 23, 31, 39] : List Int).getD t.toNat (-1) = 15 + 8 * t := by
  rcases (show t = 0 ∨ t = 1 ∨ t = 2 ∨ t = 3 by omega) with q | q | q | q <;> subst q <;> rfl
abbrev AS := (Int → Int) × Int × Int
/-- one step of what is asked: the waiting, how many, where -/
def akT (dp nm : Int → Int) (k v : Int) (s : AS) : AS :=
  if k = 5 then (s.1, s.2.1, -1)
  else if k = 39 then (s.1, s.2.1, v)
  else if k = 38 then (if lsV s.1 s.2.1 = 0 then (s.1, lsN s.2.1, v) else (s.1, lsN s.2.1, s.2.2 + 1))
  else if k = 2 then (psX s.1 s.2.1 v, psN s.2.1, s.2.2 + 1)
  else if 25 ≤ k ∧ k ≤ 33 then (psX s.1 s.2.1 (nm k), psN s.2.1, s.2.2 + 1)
  else if k = 41 ∨ k = 44 ∨ k = 35 ∨ k = 36 then (psX s.1 (lsN s.2.1) (o1C dp k (lsV s.1 s.2.1)), psN (lsN s.2.1), s.2.2 + 1)
  else (psX s.1 (lsN (lsN s.2.1)) (o2C k (lsV s.1 (lsN s.2.1)) (lsV s.1 s.2.1)), psN (lsN (lsN s.2.1)), s.2.2 + 1)
def akR (dp nm T : Int → Int) (len : Int) : Nat → AS → AS
  | 0, s => s
  | f + 1, s => if 0 ≤ s.2.2 ∧ s.2.2 < len then akR dp nm T len f (akT dp nm (and32 (T s.2.2) 63) (shr32 (T s.2.2) 6) s) else s
theorem akR_t {dp nm T : Int → Int} {len : Int} {f : Nat} {s : AS} (h : 0 ≤ s.2.2 ∧ s.2.2 < len) : akR dp nm T len (f + 1) s = akR dp nm T len f (akT dp nm (and32 (T s.2.2) 63) (shr32 (T s.2.2) 6) s) := if_pos h
theorem akR_f {dp nm T : Int → Int} {len : Int} {f : Nat} {s : AS} (h : ¬ (0 ≤ s.2.2 ∧ s.2.2 < len)) : akR dp nm T len (f + 1) s = s := if_neg h
abbrev akF (M : Me) (q c : Int) (f : Nat) (s : AS) : AS := akR (caD M) (caN M c) (M (q + 2)) (M q 1) f s
theorem caN_a {M : Me} {X : Int → Int} {n c k : Int} : caN (akM M X n) c k = caN M c k := by
  unfold caN
  rw [akM_o (by omega), akM_o (by omega), akM_o (by omega), akM_o (by omega), akM_o (by omega), akM_o (by omega), akM_o (by omega), akM_o (by omega), akM_o (by omega)]
theorem caD_a {M : Me} {X : Int → Int} {n : Int} : caD (akM M X n) = caD M := by
  funext v
  unfold caD
  rw [akM_o (by omega), akM_o (by omega)]
set_option maxHeartbeats 2000000 in
theorem l_ask {x y z : Int} {M : Me} {l : Int} {q c : Int} (hq : TS (Sf x y z) q) (hl : 0 ≤ M q 1 ∧ M q 1 ≤ 300) (hc : 0 ≤ c ∧ c < 12) (h9 : 0 ≤ M 209 c ∧ M 209 c < 5) (hh : 0 ≤ M 214 c ∧ M 214 c < 4096) (h3 : 0 ≤ M 50 3 ∧ M 50 3 ≤ 12) : ∀ (f : Nat) (i : Nat), f + i = 300 → ∀ (X : Int → Int) (n a : Int), 0 ≤ n ∧ n ≤ 64 → V kX0_ask 0 0 3 none (Ex (some (0, lsV (akF M q c f (X, n, a)).1 (akF M q c f (X, n, a)).2.1)) (Sf x y z) (akM M (akF M q c f (X, n, a)).1 (lsN (akF M q c f (X, n, a)).2.1))) 29 [(1, 47), (1, q), (0, l), (1, 49), (0, c), (0, a), (0, (i : Int)), (9, 0), (9, 0), (9, 0)] [] (Sf x y z) (akM M X n) 0 0 := by
  obtain ⟨q0, q1, q2, q3, -, -, -, -, qp⟩ := hq
  intro f
  induction f with
  | zero =>
    intro i hi X n a hn
    refine r_iload dX0_ask_29 rfl ?_
    refine r_sipush dX0_ask_31 (by decide) (by decide) ?_
    refine r_icmp_ge (tgt := 241) dX0_ask_34 (by decide) (fun h34 => ?_) (fun h34 => by exfalso; omega)
    refine r_aload_n dX0_ask_241 rfl (by decide) ?_
    refine r_cv0 dX0_ask_242 clX0_30 sf47 (by decide) (by decide) rfl (by first | decide | omega) (Nat.le_of_ble_eq_true rfl) ((c_last hn)) ⟨Nat.zero_le _, Nat.zero_le _⟩ (fun _ => ?_)
    refine r_iret dX0_ask_245 rfl ?_
    exact ⟨rfl, rfl, rfl⟩
  | succ f ih =>
    intro i hi X n a hn
    by_cases hr : 0 ≤ a ∧ a < M q 1
    · generalize hk : and32 (M (q + 2) a) 63 = k
      generalize hv : shr32 (M (q + 2) a) 6 = v
      replace ih := fun X' n' a' h1 => ih (i + 1) (by omega) X' n' a' h1
      rw [show akF M q c (f + 1) (X, n, a) = akF M q c f (akT (caD M) (caN M c) k v (X, n, a)) from by rw [← hk, ← hv]; exact akR_t hr]
      refine r_iload dX0_ask_29 rfl ?_
      refine r_sipush dX0_ask_31 (by decide) (by decide) ?_
      refine r_icmp_ge (tgt := 241) dX0_ask_34 (by decide) (fun h34 => by exfalso; omega) (fun h34 => ?_)
      refine r_iload dX0_ask_37 rfl ?_
      refine r_if_lt (tgt := 241) dX0_ask_39 (by decide) (fun h39 => by exfalso; omega) (fun h39 => ?_)
      refine r_iload dX0_ask_42 rfl ?_
      refine r_aload_n dX0_ask_44 rfl (by omega) ?_
      refine r_gi 1 dX0_ask_45 flX0_24 q0 (by decide) (by omega) rfl rfl (akM_o (by omega)) ?_
      refine r_icmp_ge (tgt := 241) dX0_ask_48 (by decide) (fun h48 => by exfalso; omega) (fun h48 => ?_)
      refine r_aload_n dX0_ask_51 rfl (by omega) ?_
      refine r_getr (x := q + 2) dX0_ask_52 flX0_27 q0 (by decide) (by omega) rfl rfl ?_
      refine r_iload dX0_ask_55 rfl ?_
      refine r_iald dX0_ask_57 q2 (by omega) (by omega) (by omega) (by decide) (akM_o (by omega)) ?_
      refine r_bipush dX0_ask_58 (by decide) (by decide) ?_
      refine r_iand dX0_ask_60 rfl ?_
      rw [show and32 (M (q + 2) a) 63 = k from hk]
      refine r_istore dX0_ask_61 rfl (by decide) st7 ?_
      refine r_aload_n dX0_ask_63 rfl (by omega) ?_
      refine r_getr (x := q + 2) dX0_ask_64 flX0_27 q0 (by decide) (by omega) rfl rfl ?_
      refine r_iload dX0_ask_67 rfl ?_
      refine r_iald dX0_ask_69 q2 (by omega) (by omega) (by omega) (by decide) (akM_o (by omega)) ?_
      refine r_bipush dX0_ask_70 (by decide) (by decide) ?_
      refine r_ishr dX0_ask_72 rfl ?_
      rw [show shr32 (M (q + 2) a) 6 = v from hv]
      refine r_istore dX0_ask_73 rfl (by decide) st8 ?_
      refine r_iinc dX0_ask_75 rfl rfl (by decide) (w32_id (by omega)) st5 ?_
      refine r_iload dX0_ask_78 rfl ?_
      refine r_iconst dX0_ask_80 (by decide) ?_
      refine r_icmp_ne (tgt := 90) dX0_ask_81 (by decide) (fun h81 => ?_) (fun h81 => ?_)
      · refine r_iload dX0_ask_90 rfl ?_
        refine r_bipush dX0_ask_92 (by decide) (by decide) ?_
        refine r_icmp_eq (tgt := 111) dX0_ask_94 (by decide) (fun h94 => ?_) (fun h94 => ?_)
        · first | (have e9 : akT (caD M) (caN M c) k v (X, n, a) = (X, n, v) := by (unfold akT; rw [if_neg (by omega), if_pos (by first | omega | assumption)])) | (have e9 : akT (caD M) (caN M c) k v (X, n, a) = (X, lsN n, v) := by (unfold akT; rw [if_neg (by omega), if_neg (by omega), if_pos (by first | omega | assumption), if_pos (by first | omega | assumption)]))
          refine r_iload dX0_ask_111 rfl ?_
          refine r_istore dX0_ask_113 rfl (by decide) st5 ?_
          refine r_goto (tgt := 235) dX0_ask_115 (by decide) ?_
          try (have e9 : akT (caD M) (caN M c) k v (X, n, a) = (X, lsN n, a + 1) := by (unfold akT; rw [if_neg (by omega), if_neg (by omega), if_pos (by first | omega | assumption), if_neg (by assumption)]))
          refine r_iinc dX0_ask_235 rfl rfl (by decide) (w32_id (by omega)) st6 ?_
          refine r_goto (tgt := 29) dX0_ask_238 (by decide) ?_
          rw [e9]
          exact wk7 (wk8 (wk9 (ih _ _ _ (by first | omega | exact lsN_b hn | exact psN_b hn | exact psN_b (lsN_b hn) | exact psN_b (lsN_b (lsN_b hn))))))
        · refine r_iload dX0_ask_97 rfl ?_
          refine r_bipush dX0_ask_99 (by decide) (by decide) ?_
          refine r_icmp_ne (tgt := 118) dX0_ask_101 (by decide) (fun h101 => ?_) (fun h101 => ?_)
          · refine r_iload dX0_ask_118 rfl ?_
            refine r_iconst dX0_ask_120 (by decide) ?_
            refine r_icmp_ne (tgt := 133) dX0_ask_121 (by decide) (fun h121 => ?_) (fun h121 => ?_)
            · refine r_iload dX0_ask_133 rfl ?_
              refine r_bipush dX0_ask_135 (by decide) (by decide) ?_
              refine r_icmp_lt (tgt := 162) dX0_ask_137 (by decide) (fun h137 => ?_) (fun h137 => ?_)
              · refine r_iload dX0_ask_162 rfl ?_
                refine r_bipush dX0_ask_164 (by decide) (by decide) ?_
                refine r_icmp_eq (tgt := 190) dX0_ask_166 (by decide) (fun h166 => ?_) (fun h166 => ?_)
                · refine r_aload_n dX0_ask_190 rfl (by decide) ?_
                  refine r_iload dX0_ask_191 rfl ?_
                  refine r_aload_n dX0_ask_193 rfl (by decide) ?_
                  refine r_cv0 dX0_ask_194 clX0_30 sf47 (by decide) (by decide) rfl (by first | decide | omega) (Nat.le_of_ble_eq_true rfl) ((c_last hn)) ⟨Nat.zero_le _, Nat.zero_le _⟩ (fun hok => ?_)
                  refine r_aload_n dX0_ask_197 rfl (by decide) ?_
                  refine r_cs3 dX0_ask_198 clX0_42 (by first | decide | omega) (Nat.le_of_ble_eq_true rfl) ((c_ofOne (M := akM M X (lsN n)) (hok.1 rfl) (by rw [akM_o (by omega)]; exact h3))) ⟨Nat.zero_le _, Nat.zero_le _⟩ (fun _ => ?_)
                  rw [show caD (akM M X (lsN n)) = caD M from caD_a]
                  refine r_cw1 dX0_ask_201 clX0_34 sf47 (by decide) (by decide) rfl (by first | decide | omega) (Nat.le_of_ble_eq_true rfl) ((c_put2 (lsN_b hn))) ⟨Nat.zero_le _, Nat.zero_le _⟩ ?_
                  have e9 : akT (caD M) (caN M c) k v (X, n, a) = (psX X (lsN n) (o1C (caD M) k (lsV X n)), psN (lsN n), a + 1) := by unfold akT; rw [if_neg (by omega), if_neg (by omega), if_neg (by omega), if_neg (by omega), if_neg (by omega), if_pos (by first | omega | assumption)]
                  refine r_goto (tgt := 235) dX0_ask_204 (by decide) ?_
                  try (have e9 : akT (caD M) (caN M c) k v (X, n, a) = (X, lsN n, a + 1) := by (unfold akT; rw [if_neg (by omega), if_neg (by omega), if_pos (by first | omega | assumption), if_neg (by assumption)]))
                  refine r_iinc dX0_ask_235 rfl rfl (by decide) (w32_id (by omega)) st6 ?_
                  refine r_goto (tgt := 29) dX0_ask_238 (by decide) ?_
                  rw [e9]
                  exact wk7 (wk8 (wk9 (ih _ _ _ (by first | omega | exact lsN_b hn | exact psN_b hn | exact psN_b (lsN_b hn) | exact psN_b (lsN_b (lsN_b hn))))))
                · refine r_iload dX0_ask_169 rfl ?_
                  refine r_bipush dX0_ask_171 (by decide) (by decide) ?_
                  refine r_icmp_eq (tgt := 190) dX0_ask_173 (by decide) (fun h173 => ?_) (fun h173 => ?_)
                  · refine r_aload_n dX0_ask_190 rfl (by decide) ?_
                    refine r_iload dX0_ask_191 rfl ?_
                    refine r_aload_n dX0_ask_193 rfl (by decide) ?_
                    refine r_cv0 dX0_ask_194 clX0_30 sf47 (by decide) (by decide) rfl (by first | decide | omega) (Nat.le_of_ble_eq_true rfl) ((c_last hn)) ⟨Nat.zero_le _, Nat.zero_le _⟩ (fun hok => ?_)
                    refine r_aload_n dX0_ask_197 rfl (by decide) ?_
                    refine r_cs3 dX0_ask_198 clX0_42 (by first | decide | omega) (Nat.le_of_ble_eq_true rfl) ((c_ofOne (M := akM M X (lsN n)) (hok.1 rfl) (by rw [akM_o (by omega)]; exact h3))) ⟨Nat.zero_le _, Nat.zero_le _⟩ (fun _ => ?_)
                    rw [show caD (akM M X (lsN n)) = caD M from caD_a]
                    refine r_cw1 dX0_ask_201 clX0_34 sf47 (by decide) (by decide) rfl (by first | decide | omega) (Nat.le_of_ble_eq_true rfl) ((c_put2 (lsN_b hn))) ⟨Nat.zero_le _, Nat.zero_le _⟩ ?_
                    have e9 : akT (caD M) (caN M c) k v (X, n, a) = (psX X (lsN n) (o1C (caD M) k (lsV X n)), psN (lsN n), a + 1) := by unfold akT; rw [if_neg (by omega), if_neg (by omega), if_neg (by omega), if_neg (by omega), if_neg (by omega), if_pos (by first | omega | assumption)]
                    refine r_goto (tgt := 235) dX0_ask_204 (by decide) ?_
                    try (have e9 : akT (caD M) (caN M c) k v (X, n, a) = (X, lsN n, a + 1) := by (unfold akT; rw [if_neg (by omega), if_neg (by omega), if_pos (by first | omega | assumption), if_neg (by assumption)]))
                    refine r_iinc dX0_ask_235 rfl rfl (by decide) (w32_id (by omega)) st6 ?_
                    refine r_goto (tgt := 29) dX0_ask_238 (by decide) ?_
                    rw [e9]
                    exact wk7 (wk8 (wk9 (ih _ _ _ (by first | omega | exact lsN_b hn | exact psN_b hn | exact psN_b (lsN_b hn) | exact psN_b (lsN_b (lsN_b hn))))))
                  · refine r_iload dX0_ask_176 rfl ?_
                    refine r_bipush dX0_ask_178 (by decide) (by decide) ?_
                    refine r_icmp_eq (tgt := 190) dX0_ask_180 (by decide) (fun h180 => ?_) (fun h180 => ?_)
                    · refine r_aload_n dX0_ask_190 rfl (by decide) ?_
                      refine r_iload dX0_ask_191 rfl ?_
                      refine r_aload_n dX0_ask_193 rfl (by decide) ?_
                      refine r_cv0 dX0_ask_194 clX0_30 sf47 (by decide) (by decide) rfl (by first | decide | omega) (Nat.le_of_ble_eq_true rfl) ((c_last hn)) ⟨Nat.zero_le _, Nat.zero_le _⟩ (fun hok => ?_)
                      refine r_aload_n dX0_ask_197 rfl (by decide) ?_
                      refine r_cs3 dX0_ask_198 clX0_42 (by first | decide | omega) (Nat.le_of_ble_eq_true rfl) ((c_ofOne (M := akM M X (lsN n)) (hok.1 rfl) (by rw [akM_o (by omega)]; exact h3))) ⟨Nat.zero_le _, Nat.zero_le _⟩ (fun _ => ?_)
                      rw [show caD (akM M X (lsN n)) = caD M from caD_a]
                      refine r_cw1 dX0_ask_201 clX0_34 sf47 (by decide) (by decide) rfl (by first | decide | omega) (Nat.le_of_ble_eq_true rfl) ((c_put2 (lsN_b hn))) ⟨Nat.zero_le _, Nat.zero_le _⟩ ?_
                      have e9 : akT (caD M) (caN M c) k v (X, n, a) = (psX X (lsN n) (o1C (caD M) k (lsV X n)), psN (lsN n), a + 1) := by unfold akT; rw [if_neg (by omega), if_neg (by omega), if_neg (by omega), if_neg (by omega), if_neg (by omega), if_pos (by first | omega | assumption)]
                      refine r_goto (tgt := 235) dX0_ask_204 (by decide) ?_
                      try (have e9 : akT (caD M) (caN M c) k v (X, n, a) = (X, lsN n, a + 1) := by (unfold akT; rw [if_neg (by omega), if_neg (by omega), if_pos (by first | omega | assumption), if_neg (by assumption)]))
                      refine r_iinc dX0_ask_235 rfl rfl (by decide) (w32_id (by omega)) st6 ?_
                      refine r_goto (tgt := 29) dX0_ask_238 (by decide) ?_
                      rw [e9]
                      exact wk7 (wk8 (wk9 (ih _ _ _ (by first | omega | exact lsN_b hn | exact psN_b hn | exact psN_b (lsN_b hn) | exact psN_b (lsN_b (lsN_b hn))))))
                    · refine r_iload dX0_ask_183 rfl ?_
                      refine r_bipush dX0_ask_185 (by decide) (by decide) ?_
                      refine r_icmp_ne (tgt := 207) dX0_ask_187 (by decide) (fun h187 => ?_) (fun h187 => ?_)
                      · refine r_iload dX0_ask_207 rfl ?_
                        refine r_bipush dX0_ask_209 (by decide) (by decide) ?_
                        refine r_icmp_eq (tgt := 235) dX0_ask_211 (by decide) (fun h211 => by exfalso; omega) (fun h211 => ?_)
                        refine r_aload_n dX0_ask_214 rfl (by decide) ?_
                        refine r_cv0 dX0_ask_215 clX0_30 sf47 (by decide) (by decide) rfl (by first | decide | omega) (Nat.le_of_ble_eq_true rfl) ((c_last hn)) ⟨Nat.zero_le _, Nat.zero_le _⟩ (fun _ => ?_)
                        refine r_istore dX0_ask_218 rfl (by decide) st9 ?_
                        refine r_aload_n dX0_ask_220 rfl (by decide) ?_
                        refine r_iload dX0_ask_221 rfl ?_
                        refine r_aload_n dX0_ask_223 rfl (by decide) ?_
                        refine r_cv0 dX0_ask_224 clX0_30 sf47 (by decide) (by decide) rfl (by first | decide | omega) (Nat.le_of_ble_eq_true rfl) ((c_last (lsN_b hn))) ⟨Nat.zero_le _, Nat.zero_le _⟩ (fun _ => ?_)
                        refine r_iload dX0_ask_227 rfl ?_
                        refine r_cs3 dX0_ask_229 clX0_46 (by first | decide | omega) (Nat.le_of_ble_eq_true rfl) (c_ofTwo) ⟨Nat.zero_le _, Nat.zero_le _⟩ (fun _ => ?_)
                        refine r_cw1 dX0_ask_232 clX0_34 sf47 (by decide) (by decide) rfl (by first | decide | omega) (Nat.le_of_ble_eq_true rfl) ((c_put2 (lsN_b (lsN_b hn)))) ⟨Nat.zero_le _, Nat.zero_le _⟩ ?_
                        have e9 : akT (caD M) (caN M c) k v (X, n, a) = (psX X (lsN (lsN n)) (o2C k (lsV X (lsN n)) (lsV X n)), psN (lsN (lsN n)), a + 1) := by unfold akT; rw [if_neg (by omega), if_neg (by omega), if_neg (by omega), if_neg (by omega), if_neg (by omega), if_neg (by omega)]
                        try (have e9 : akT (caD M) (caN M c) k v (X, n, a) = (X, lsN n, a + 1) := by (unfold akT; rw [if_neg (by omega), if_neg (by omega), if_pos (by first | omega | assumption), if_neg (by assumption)]))
                        refine r_iinc dX0_ask_235 rfl rfl (by decide) (w32_id (by omega)) st6 ?_
                        refine r_goto (tgt := 29) dX0_ask_238 (by decide) ?_
                        rw [e9]
                        exact wk7 (wk8 (wk9 (ih _ _ _ (by first | omega | exact lsN_b hn | exact psN_b hn | exact psN_b (lsN_b hn) | exact psN_b (lsN_b (lsN_b hn))))))
                      · refine r_aload_n dX0_ask_190 rfl (by decide) ?_
                        refine r_iload dX0_ask_191 rfl ?_
                        refine r_aload_n dX0_ask_193 rfl (by decide) ?_
                        refine r_cv0 dX0_ask_194 clX0_30 sf47 (by decide) (by decide) rfl (by first | decide | omega) (Nat.le_of_ble_eq_true rfl) ((c_last hn)) ⟨Nat.zero_le _, Nat.zero_le _⟩ (fun hok => ?_)
                        refine r_aload_n dX0_ask_197 rfl (by decide) ?_
                        refine r_cs3 dX0_ask_198 clX0_42 (by first | decide | omega) (Nat.le_of_ble_eq_true rfl) ((c_ofOne (M := akM M X (lsN n)) (hok.1 rfl) (by rw [akM_o (by omega)]; exact h3))) ⟨Nat.zero_le _, Nat.zero_le _⟩ (fun _ => ?_)
                        rw [show caD (akM M X (lsN n)) = caD M from caD_a]
                        refine r_cw1 dX0_ask_201 clX0_34 sf47 (by decide) (by decide) rfl (by first | decide | omega) (Nat.le_of_ble_eq_true rfl) ((c_put2 (lsN_b hn))) ⟨Nat.zero_le _, Nat.zero_le _⟩ ?_
                        have e9 : akT (caD M) (caN M c) k v (X, n, a) = (psX X (lsN n) (o1C (caD M) k (lsV X n)), psN (lsN n), a + 1) := by unfold akT; rw [if_neg (by omega), if_neg (by omega), if_neg (by omega), if_neg (by omega), if_neg (by omega), if_pos (by first | omega | assumption)]
                        refine r_goto (tgt := 235) dX0_ask_204 (by decide) ?_
                        try (have e9 : akT (caD M) (caN M c) k v (X, n, a) = (X, lsN n, a + 1) := by (unfold akT; rw [if_neg (by omega), if_neg (by omega), if_pos (by first | omega | assumption), if_neg (by assumption)]))
                        refine r_iinc dX0_ask_235 rfl rfl (by decide) (w32_id (by omega)) st6 ?_
                        refine r_goto (tgt := 29) dX0_ask_238 (by decide) ?_
                        rw [e9]
                        exact wk7 (wk8 (wk9 (ih _ _ _ (by first | omega | exact lsN_b hn | exact psN_b hn | exact psN_b (lsN_b hn) | exact psN_b (lsN_b (lsN_b hn))))))
              · refine r_iload dX0_ask_140 rfl ?_
                refine r_bipush dX0_ask_142 (by decide) (by decide) ?_
                refine r_icmp_gt (tgt := 162) dX0_ask_144 (by decide) (fun h144 => ?_) (fun h144 => ?_)
                · refine r_iload dX0_ask_162 rfl ?_
                  refine r_bipush dX0_ask_164 (by decide) (by decide) ?_
                  refine r_icmp_eq (tgt := 190) dX0_ask_166 (by decide) (fun h166 => ?_) (fun h166 => ?_)
                  · refine r_aload_n dX0_ask_190 rfl (by decide) ?_
                    refine r_iload dX0_ask_191 rfl ?_
                    refine r_aload_n dX0_ask_193 rfl (by decide) ?_
                    refine r_cv0 dX0_ask_194 clX0_30 sf47 (by decide) (by decide) rfl (by first | decide | omega) (Nat.le_of_ble_eq_true rfl) ((c_last hn)) ⟨Nat.zero_le _, Nat.zero_le _⟩ (fun hok => ?_)
                    refine r_aload_n dX0_ask_197 rfl (by decide) ?_
                    refine r_cs3 dX0_ask_198 clX0_42 (by first | decide | omega) (Nat.le_of_ble_eq_true rfl) ((c_ofOne (M := akM M X (lsN n)) (hok.1 rfl) (by rw [akM_o (by omega)]; exact h3))) ⟨Nat.zero_le _, Nat.zero_le _⟩ (fun _ => ?_)
                    rw [show caD (akM M X (lsN n)) = caD M from caD_a]
                    refine r_cw1 dX0_ask_201 clX0_34 sf47 (by decide) (by decide) rfl (by first | decide | omega) (Nat.le_of_ble_eq_true rfl) ((c_put2 (lsN_b hn))) ⟨Nat.zero_le _, Nat.zero_le _⟩ ?_
                    have e9 : akT (caD M) (caN M c) k v (X, n, a) = (psX X (lsN n) (o1C (caD M) k (lsV X n)), psN (lsN n), a + 1) := by unfold akT; rw [if_neg (by omega), if_neg (by omega), if_neg (by omega), if_neg (by omega), if_neg (by omega), if_pos (by first | omega | assumption)]
                    refine r_goto (tgt := 235) dX0_ask_204 (by decide) ?_
                    try (have e9 : akT (caD M) (caN M c) k v (X, n, a) = (X, lsN n, a + 1) := by (unfold akT; rw [if_neg (by omega), if_neg (by omega), if_pos (by first | omega | assumption), if_neg (by assumption)]))
                    refine r_iinc dX0_ask_235 rfl rfl (by decide) (w32_id (by omega)) st6 ?_
                    refine r_goto (tgt := 29) dX0_ask_238 (by decide) ?_
                    rw [e9]
                    exact wk7 (wk8 (wk9 (ih _ _ _ (by first | omega | exact lsN_b hn | exact psN_b hn | exact psN_b (lsN_b hn) | exact psN_b (lsN_b (lsN_b hn))))))
                  · refine r_iload dX0_ask_169 rfl ?_
                    refine r_bipush dX0_ask_171 (by decide) (by decide) ?_
                    refine r_icmp_eq (tgt := 190) dX0_ask_173 (by decide) (fun h173 => ?_) (fun h173 => ?_)
                    · refine r_aload_n dX0_ask_190 rfl (by decide) ?_
                      refine r_iload dX0_ask_191 rfl ?_
                      refine r_aload_n dX0_ask_193 rfl (by decide) ?_
                      refine r_cv0 dX0_ask_194 clX0_30 sf47 (by decide) (by decide) rfl (by first | decide | omega) (Nat.le_of_ble_eq_true rfl) ((c_last hn)) ⟨Nat.zero_le _, Nat.zero_le _⟩ (fun hok => ?_)
                      refine r_aload_n dX0_ask_197 rfl (by decide) ?_
                      refine r_cs3 dX0_ask_198 clX0_42 (by first | decide | omega) (Nat.le_of_ble_eq_true rfl) ((c_ofOne (M := akM M X (lsN n)) (hok.1 rfl) (by rw [akM_o (by omega)]; exact h3))) ⟨Nat.zero_le _, Nat.zero_le _⟩ (fun _ => ?_)
                      rw [show caD (akM M X (lsN n)) = caD M from caD_a]
                      refine r_cw1 dX0_ask_201 clX0_34 sf47 (by decide) (by decide) rfl (by first | decide | omega) (Nat.le_of_ble_eq_true rfl) ((c_put2 (lsN_b hn))) ⟨Nat.zero_le _, Nat.zero_le _⟩ ?_
                      have e9 : akT (caD M) (caN M c) k v (X, n, a) = (psX X (lsN n) (o1C (caD M) k (lsV X n)), psN (lsN n), a + 1) := by unfold akT; rw [if_neg (by omega), if_neg (by omega), if_neg (by omega), if_neg (by omega), if_neg (by omega), if_pos (by first | omega | assumption)]
                      refine r_goto (tgt := 235) dX0_ask_204 (by decide) ?_
                      try (have e9 : akT (caD M) (caN M c) k v (X, n, a) = (X, lsN n, a + 1) := by (unfold akT; rw [if_neg (by omega), if_neg (by omega), if_pos (by first | omega | assumption), if_neg (by assumption)]))
                      refine r_iinc dX0_ask_235 rfl rfl (by decide) (w32_id (by omega)) st6 ?_
                      refine r_goto (tgt := 29) dX0_ask_238 (by decide) ?_
                      rw [e9]
                      exact wk7 (wk8 (wk9 (ih _ _ _ (by first | omega | exact lsN_b hn | exact psN_b hn | exact psN_b (lsN_b hn) | exact psN_b (lsN_b (lsN_b hn))))))
                    · refine r_iload dX0_ask_176 rfl ?_
                      refine r_bipush dX0_ask_178 (by decide) (by decide) ?_
                      refine r_icmp_eq (tgt := 190) dX0_ask_180 (by decide) (fun h180 => ?_) (fun h180 => ?_)
                      · refine r_aload_n dX0_ask_190 rfl (by decide) ?_
                        refine r_iload dX0_ask_191 rfl ?_
                        refine r_aload_n dX0_ask_193 rfl (by decide) ?_
                        refine r_cv0 dX0_ask_194 clX0_30 sf47 (by decide) (by decide) rfl (by first | decide | omega) (Nat.le_of_ble_eq_true rfl) ((c_last hn)) ⟨Nat.zero_le _, Nat.zero_le _⟩ (fun hok => ?_)
                        refine r_aload_n dX0_ask_197 rfl (by decide) ?_
                        refine r_cs3 dX0_ask_198 clX0_42 (by first | decide | omega) (Nat.le_of_ble_eq_true rfl) ((c_ofOne (M := akM M X (lsN n)) (hok.1 rfl) (by rw [akM_o (by omega)]; exact h3))) ⟨Nat.zero_le _, Nat.zero_le _⟩ (fun _ => ?_)
                        rw [show caD (akM M X (lsN n)) = caD M from caD_a]
                        refine r_cw1 dX0_ask_201 clX0_34 sf47 (by decide) (by decide) rfl (by first | decide | omega) (Nat.le_of_ble_eq_true rfl) ((c_put2 (lsN_b hn))) ⟨Nat.zero_le _, Nat.zero_le _⟩ ?_
                        have e9 : akT (caD M) (caN M c) k v (X, n, a) = (psX X (lsN n) (o1C (caD M) k (lsV X n)), psN (lsN n), a + 1) := by unfold akT; rw [if_neg (by omega), if_neg (by omega), if_neg (by omega), if_neg (by omega), if_neg (by omega), if_pos (by first | omega | assumption)]
                        refine r_goto (tgt := 235) dX0_ask_204 (by decide) ?_
                        try (have e9 : akT (caD M) (caN M c) k v (X, n, a) = (X, lsN n, a + 1) := by (unfold akT; rw [if_neg (by omega), if_neg (by omega), if_pos (by first | omega | assumption), if_neg (by assumption)]))
                        refine r_iinc dX0_ask_235 rfl rfl (by decide) (w32_id (by omega)) st6 ?_
                        refine r_goto (tgt := 29) dX0_ask_238 (by decide) ?_
                        rw [e9]
                        exact wk7 (wk8 (wk9 (ih _ _ _ (by first | omega | exact lsN_b hn | exact psN_b hn | exact psN_b (lsN_b hn) | exact psN_b (lsN_b (lsN_b hn))))))
                      · refine r_iload dX0_ask_183 rfl ?_
                        refine r_bipush dX0_ask_185 (by decide) (by decide) ?_
                        refine r_icmp_ne (tgt := 207) dX0_ask_187 (by decide) (fun h187 => ?_) (fun h187 => ?_)
                        · refine r_iload dX0_ask_207 rfl ?_
                          refine r_bipush dX0_ask_209 (by decide) (by decide) ?_
                          refine r_icmp_eq (tgt := 235) dX0_ask_211 (by decide) (fun h211 => by exfalso; omega) (fun h211 => ?_)
                          refine r_aload_n dX0_ask_214 rfl (by decide) ?_
                          refine r_cv0 dX0_ask_215 clX0_30 sf47 (by decide) (by decide) rfl (by first | decide | omega) (Nat.le_of_ble_eq_true rfl) ((c_last hn)) ⟨Nat.zero_le _, Nat.zero_le _⟩ (fun _ => ?_)
                          refine r_istore dX0_ask_218 rfl (by decide) st9 ?_
                          refine r_aload_n dX0_ask_220 rfl (by decide) ?_
                          refine r_iload dX0_ask_221 rfl ?_
                          refine r_aload_n dX0_ask_223 rfl (by decide) ?_
                          refine r_cv0 dX0_ask_224 clX0_30 sf47 (by decide) (by decide) rfl (by first | decide | omega) (Nat.le_of_ble_eq_true rfl) ((c_last (lsN_b hn))) ⟨Nat.zero_le _, Nat.zero_le _⟩ (fun _ => ?_)
                          refine r_iload dX0_ask_227 rfl ?_
                          refine r_cs3 dX0_ask_229 clX0_46 (by first | decide | omega) (Nat.le_of_ble_eq_true rfl) (c_ofTwo) ⟨Nat.zero_le _, Nat.zero_le _⟩ (fun _ => ?_)
                          refine r_cw1 dX0_ask_232 clX0_34 sf47 (by decide) (by decide) rfl (by first | decide | omega) (Nat.le_of_ble_eq_true rfl) ((c_put2 (lsN_b (lsN_b hn)))) ⟨Nat.zero_le _, Nat.zero_le _⟩ ?_
                          have e9 : akT (caD M) (caN M c) k v (X, n, a) = (psX X (lsN (lsN n)) (o2C k (lsV X (lsN n)) (lsV X n)), psN (lsN (lsN n)), a + 1) := by unfold akT; rw [if_neg (by omega), if_neg (by omega), if_neg (by omega), if_neg (by omega), if_neg (by omega), if_neg (by omega)]
                          try (have e9 : akT (caD M) (caN M c) k v (X, n, a) = (X, lsN n, a + 1) := by (unfold akT; rw [if_neg (by omega), if_neg (by omega), if_pos (by first | omega | assumption), if_neg (by assumption)]))
                          refine r_iinc dX0_ask_235 rfl rfl (by decide) (w32_id (by omega)) st6 ?_
                          refine r_goto (tgt := 29) dX0_ask_238 (by decide) ?_
                          rw [e9]
                          exact wk7 (wk8 (wk9 (ih _ _ _ (by first | omega | exact lsN_b hn | exact psN_b hn | exact psN_b (lsN_b hn) | exact psN_b (lsN_b (lsN_b hn))))))
                        · refine r_aload_n dX0_ask_190 rfl (by decide) ?_
                          refine r_iload dX0_ask_191 rfl ?_
                          refine r_aload_n dX0_ask_193 rfl (by decide) ?_
                          refine r_cv0 dX0_ask_194 clX0_30 sf47 (by decide) (by decide) rfl (by first | decide | omega) (Nat.le_of_ble_eq_true rfl) ((c_last hn)) ⟨Nat.zero_le _, Nat.zero_le _⟩ (fun hok => ?_)
                          refine r_aload_n dX0_ask_197 rfl (by decide) ?_
                          refine r_cs3 dX0_ask_198 clX0_42 (by first | decide | omega) (Nat.le_of_ble_eq_true rfl) ((c_ofOne (M := akM M X (lsN n)) (hok.1 rfl) (by rw [akM_o (by omega)]; exact h3))) ⟨Nat.zero_le _, Nat.zero_le _⟩ (fun _ => ?_)
                          rw [show caD (akM M X (lsN n)) = caD M from caD_a]
                          refine r_cw1 dX0_ask_201 clX0_34 sf47 (by decide) (by decide) rfl (by first | decide | omega) (Nat.le_of_ble_eq_true rfl) ((c_put2 (lsN_b hn))) ⟨Nat.zero_le _, Nat.zero_le _⟩ ?_
                          have e9 : akT (caD M) (caN M c) k v (X, n, a) = (psX X (lsN n) (o1C (caD M) k (lsV X n)), psN (lsN n), a + 1) := by unfold akT; rw [if_neg (by omega), if_neg (by omega), if_neg (by omega), if_neg (by omega), if_neg (by omega), if_pos (by first | omega | assumption)]
                          refine r_goto (tgt := 235) dX0_ask_204 (by decide) ?_
                          try (have e9 : akT (caD M) (caN M c) k v (X, n, a) = (X, lsN n, a + 1) := by (unfold akT; rw [if_neg (by omega), if_neg (by omega), if_pos (by first | omega | assumption), if_neg (by assumption)]))
                          refine r_iinc dX0_ask_235 rfl rfl (by decide) (w32_id (by omega)) st6 ?_
                          refine r_goto (tgt := 29) dX0_ask_238 (by decide) ?_
                          rw [e9]
                          exact wk7 (wk8 (wk9 (ih _ _ _ (by first | omega | exact lsN_b hn | exact psN_b hn | exact psN_b (lsN_b hn) | exact psN_b (lsN_b (lsN_b hn))))))
                · refine r_aload_n dX0_ask_147 rfl (by decide) ?_
                  refine r_iload dX0_ask_148 rfl ?_
                  refine r_aload_n dX0_ask_150 rfl (by decide) ?_
                  refine r_iload dX0_ask_151 rfl ?_
                  refine r_cs3 dX0_ask_153 clX0_38 (by first | decide | omega) (Nat.le_of_ble_eq_true rfl) ((c_named (M := akM M X n) hc (by rw [akM_o (by omega)]; exact h9) (by rw [akM_o (by omega)]; exact hh))) ⟨Nat.zero_le _, Nat.zero_le _⟩ (fun _ => ?_)
                  rw [show caN (akM M X n) c k = caN M c k from caN_a]
                  refine r_cw1 dX0_ask_156 clX0_34 sf47 (by decide) (by decide) rfl (by first | decide | omega) (Nat.le_of_ble_eq_true rfl) ((c_put2 hn)) ⟨Nat.zero_le _, Nat.zero_le _⟩ ?_
                  have e9 : akT (caD M) (caN M c) k v (X, n, a) = (psX X n (caN M c k), psN n, a + 1) := by unfold akT; rw [if_neg (by omega), if_neg (by omega), if_neg (by omega), if_neg (by omega), if_pos (by first | omega | assumption)]
                  refine r_goto (tgt := 235) dX0_ask_159 (by decide) ?_
                  try (have e9 : akT (caD M) (caN M c) k v (X, n, a) = (X, lsN n, a + 1) := by (unfold akT; rw [if_neg (by omega), if_neg (by omega), if_pos (by first | omega | assumption), if_neg (by assumption)]))
                  refine r_iinc dX0_ask_235 rfl rfl (by decide) (w32_id (by omega)) st6 ?_
                  refine r_goto (tgt := 29) dX0_ask_238 (by decide) ?_
                  rw [e9]
                  exact wk7 (wk8 (wk9 (ih _ _ _ (by first | omega | exact lsN_b hn | exact psN_b hn | exact psN_b (lsN_b hn) | exact psN_b (lsN_b (lsN_b hn))))))
            · refine r_aload_n dX0_ask_124 rfl (by decide) ?_
              refine r_iload dX0_ask_125 rfl ?_
              refine r_cw1 dX0_ask_127 clX0_34 sf47 (by decide) (by decide) rfl (by first | decide | omega) (Nat.le_of_ble_eq_true rfl) ((c_put2 hn)) ⟨Nat.zero_le _, Nat.zero_le _⟩ ?_
              have e9 : akT (caD M) (caN M c) k v (X, n, a) = (psX X n v, psN n, a + 1) := by unfold akT; rw [if_neg (by omega), if_neg (by omega), if_neg (by omega), if_pos (by first | omega | assumption)]
              refine r_goto (tgt := 235) dX0_ask_130 (by decide) ?_
              try (have e9 : akT (caD M) (caN M c) k v (X, n, a) = (X, lsN n, a + 1) := by (unfold akT; rw [if_neg (by omega), if_neg (by omega), if_pos (by first | omega | assumption), if_neg (by assumption)]))
              refine r_iinc dX0_ask_235 rfl rfl (by decide) (w32_id (by omega)) st6 ?_
              refine r_goto (tgt := 29) dX0_ask_238 (by decide) ?_
              rw [e9]
              exact wk7 (wk8 (wk9 (ih _ _ _ (by first | omega | exact lsN_b hn | exact psN_b hn | exact psN_b (lsN_b hn) | exact psN_b (lsN_b (lsN_b hn))))))
          · refine r_aload_n dX0_ask_104 rfl (by decide) ?_
            refine r_cv0 dX0_ask_105 clX0_30 sf47 (by decide) (by decide) rfl (by first | decide | omega) (Nat.le_of_ble_eq_true rfl) ((c_last hn)) ⟨Nat.zero_le _, Nat.zero_le _⟩ (fun _ => ?_)
            refine r_if_ne (tgt := 118) dX0_ask_108 (by decide) (fun h108 => ?_) (fun h108 => ?_)
            · refine r_iload dX0_ask_118 rfl ?_
              refine r_iconst dX0_ask_120 (by decide) ?_
              refine r_icmp_ne (tgt := 133) dX0_ask_121 (by decide) (fun h121 => ?_) (fun h121 => by exfalso; omega)
              refine r_iload dX0_ask_133 rfl ?_
              refine r_bipush dX0_ask_135 (by decide) (by decide) ?_
              refine r_icmp_lt (tgt := 162) dX0_ask_137 (by decide) (fun h137 => by exfalso; omega) (fun h137 => ?_)
              refine r_iload dX0_ask_140 rfl ?_
              refine r_bipush dX0_ask_142 (by decide) (by decide) ?_
              refine r_icmp_gt (tgt := 162) dX0_ask_144 (by decide) (fun h144 => ?_) (fun h144 => by exfalso; omega)
              refine r_iload dX0_ask_162 rfl ?_
              refine r_bipush dX0_ask_164 (by decide) (by decide) ?_
              refine r_icmp_eq (tgt := 190) dX0_ask_166 (by decide) (fun h166 => by exfalso; omega) (fun h166 => ?_)
              refine r_iload dX0_ask_169 rfl ?_
              refine r_bipush dX0_ask_171 (by decide) (by decide) ?_
              refine r_icmp_eq (tgt := 190) dX0_ask_173 (by decide) (fun h173 => by exfalso; omega) (fun h173 => ?_)
              refine r_iload dX0_ask_176 rfl ?_
              refine r_bipush dX0_ask_178 (by decide) (by decide) ?_
              refine r_icmp_eq (tgt := 190) dX0_ask_180 (by decide) (fun h180 => by exfalso; omega) (fun h180 => ?_)
              refine r_iload dX0_ask_183 rfl ?_
              refine r_bipush dX0_ask_185 (by decide) (by decide) ?_
              refine r_icmp_ne (tgt := 207) dX0_ask_187 (by decide) (fun h187 => ?_) (fun h187 => by exfalso; omega)
              refine r_iload dX0_ask_207 rfl ?_
              refine r_bipush dX0_ask_209 (by decide) (by decide) ?_
              refine r_icmp_eq (tgt := 235) dX0_ask_211 (by decide) (fun h211 => ?_) (fun h211 => by exfalso; omega)
              try (have e9 : akT (caD M) (caN M c) k v (X, n, a) = (X, lsN n, a + 1) := by (unfold akT; rw [if_neg (by omega), if_neg (by omega), if_pos (by first | omega | assumption), if_neg (by assumption)]))
              refine r_iinc dX0_ask_235 rfl rfl (by decide) (w32_id (by omega)) st6 ?_
              refine r_goto (tgt := 29) dX0_ask_238 (by decide) ?_
              rw [e9]
              exact wk7 (wk8 (wk9 (ih _ _ _ (by first | omega | exact lsN_b hn | exact psN_b hn | exact psN_b (lsN_b hn) | exact psN_b (lsN_b (lsN_b hn))))))
            · first | (have e9 : akT (caD M) (caN M c) k v (X, n, a) = (X, n, v) := by (unfold akT; rw [if_neg (by omega), if_pos (by first | omega | assumption)])) | (have e9 : akT (caD M) (caN M c) k v (X, n, a) = (X, lsN n, v) := by (unfold akT; rw [if_neg (by omega), if_neg (by omega), if_pos (by first | omega | assumption), if_pos (by first | omega | assumption)]))
              refine r_iload dX0_ask_111 rfl ?_
              refine r_istore dX0_ask_113 rfl (by decide) st5 ?_
              refine r_goto (tgt := 235) dX0_ask_115 (by decide) ?_
              try (have e9 : akT (caD M) (caN M c) k v (X, n, a) = (X, lsN n, a + 1) := by (unfold akT; rw [if_neg (by omega), if_neg (by omega), if_pos (by first | omega | assumption), if_neg (by assumption)]))
              refine r_iinc dX0_ask_235 rfl rfl (by decide) (w32_id (by omega)) st6 ?_
              refine r_goto (tgt := 29) dX0_ask_238 (by decide) ?_
              rw [e9]
              exact wk7 (wk8 (wk9 (ih _ _ _ (by first | omega | exact lsN_b hn | exact psN_b hn | exact psN_b (lsN_b hn) | exact psN_b (lsN_b (lsN_b hn))))))
      · refine r_iconst dX0_ask_84 (by decide) ?_
        refine r_istore dX0_ask_85 rfl (by decide) st5 ?_
        have e9 : akT (caD M) (caN M c) k v (X, n, a) = (X, n, -1) := by unfold akT; rw [if_pos (by first | omega | assumption)]
        refine r_goto (tgt := 235) dX0_ask_87 (by decide) ?_
        try (have e9 : akT (caD M) (caN M c) k v (X, n, a) = (X, lsN n, a + 1) := by (unfold akT; rw [if_neg (by omega), if_neg (by omega), if_pos (by first | omega | assumption), if_neg (by assumption)]))
        refine r_iinc dX0_ask_235 rfl rfl (by decide) (w32_id (by omega)) st6 ?_
        refine r_goto (tgt := 29) dX0_ask_238 (by decide) ?_
        rw [e9]
        exact wk7 (wk8 (wk9 (ih _ _ _ (by first | omega | exact lsN_b hn | exact psN_b hn | exact psN_b (lsN_b hn) | exact psN_b (lsN_b (lsN_b hn))))))
    · rw [show akF M q c (f + 1) (X, n, a) = (X, n, a) from akR_f hr]
      refine r_iload dX0_ask_29 rfl ?_
      refine r_sipush dX0_ask_31 (by decide) (by decide) ?_
      refine r_icmp_ge (tgt := 241) dX0_ask_34 (by decide) (fun h34 => by exfalso; omega) (fun h34 => ?_)
      refine r_iload dX0_ask_37 rfl ?_
      refine r_if_lt (tgt := 241) dX0_ask_39 (by decide) (fun h39 => ?_) (fun h39 => ?_)
      · refine r_aload_n dX0_ask_241 rfl (by decide) ?_
        refine r_cv0 dX0_ask_242 clX0_30 sf47 (by decide) (by decide) rfl (by first | decide | omega) (Nat.le_of_ble_eq_true rfl) ((c_last hn)) ⟨Nat.zero_le _, Nat.zero_le _⟩ (fun _ => ?_)
        refine r_iret dX0_ask_245 rfl ?_
        exact ⟨rfl, rfl, rfl⟩
      · refine r_iload dX0_ask_42 rfl ?_
        refine r_aload_n dX0_ask_44 rfl (by omega) ?_
        refine r_gi 1 dX0_ask_45 flX0_24 q0 (by decide) (by omega) rfl rfl (akM_o (by omega)) ?_
        refine r_icmp_ge (tgt := 241) dX0_ask_48 (by decide) (fun h48 => ?_) (fun h48 => by exfalso; omega)
        refine r_aload_n dX0_ask_241 rfl (by decide) ?_
        refine r_cv0 dX0_ask_242 clX0_30 sf47 (by decide) (by decide) rfl (by first | decide | omega) (Nat.le_of_ble_eq_true rfl) ((c_last hn)) ⟨Nat.zero_le _, Nat.zero_le _⟩ (fun _ => ?_)
        refine r_iret dX0_ask_245 rfl ?_
        exact ⟨rfl, rfl, rfl⟩
