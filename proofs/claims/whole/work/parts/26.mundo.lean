/-- the CREASES of a step taken back, the first i of them -/
def ucv (M : Me) (x c k : Int) : Int := if c < M 430 x then M 430 (x + 5 + 2 * c + k) else if k = 0 then M 430 (15 + 7 * c + 4) else 0
def ucA (M : Me) (x i : Int) : Me := fun a j => if a = 430 ∧ 15 ≤ j ∧ j < 15 + 7 * i ∧ (j - 15) % 7 < 2 then ucv M x ((j - 15) / 7) ((j - 15) % 7) else M a j
theorem uc_o {M : Me} {x i a j : Int} (h : ¬ (a = 430 ∧ 15 ≤ j ∧ j < 15 + 7 * i ∧ (j - 15) % 7 < 2)) : ucA M x i a j = M a j := by unfold ucA; rw [if_neg h]
theorem rd_uc {M : Me} {x i a j z : Int} (h : ¬ (a = 430 ∧ 15 ≤ j ∧ j < 15 + 7 * i ∧ (j - 15) % 7 < 2)) (k : M a j = z) : ucA M x i a j = z := (uc_o h).trans k
theorem uc_0 {M : Me} {x : Int} : M = ucA M x 0 := by funext a j; exact (uc_o (by omega)).symm
theorem uc_s {M : Me} {x y0 y1 v0 v1 : Int} {i : Nat} (h0 : y0 = 15 + 7 * (i : Int)) (h1 : y1 = 15 + 7 * (i : Int) + 1) (hv0 : v0 = ucv M x i 0) (hv1 : v1 = ucv M x i 1) : up (up (ucA M x i) 430 y0 v0) 430 y1 v1 = ucA M x ((i + 1 : Nat) : Int) := by
  subst h0; subst h1; subst hv0; subst hv1
  funext a j
  by_cases g1 : a = 430 ∧ j = 15 + 7 * (i : Int) + 1
  · rw [up_eq g1]
    obtain ⟨rfl, rfl⟩ := g1
    unfold ucA
    rw [if_pos (by omega)]
    have e1 : (15 + 7 * (i : Int) + 1 - 15) / 7 = i := by omega
    have e2 : (15 + 7 * (i : Int) + 1 - 15) % 7 = 1 := by omega
    rw [e1, e2]
  · rw [up_ne g1]
    by_cases g0 : a = 430 ∧ j = 15 + 7 * (i : Int)
    · rw [up_eq g0]
      obtain ⟨rfl, rfl⟩ := g0
      unfold ucA
      rw [if_pos (by omega)]
      have e1 : (15 + 7 * (i : Int) - 15) / 7 = i := by omega
      have e2 : (15 + 7 * (i : Int) - 15) % 7 = 0 := by omega
      rw [e1, e2]
    · rw [up_ne g0]
      unfold ucA
      by_cases g : a = 430 ∧ 15 ≤ j ∧ j < 15 + 7 * (i : Int) ∧ (j - 15) % 7 < 2
      · rw [if_pos g, if_pos (by omega)]
      · rw [if_neg g, if_neg (by omega)]
/-- the COINS of a step taken back -/
def uqv (M : Me) (x p : Int) : Int := if p < M 430 (x + 1) then M 430 (x + 29 + p) else M 430 (99 + 3 * p + 2)
def uqA (M : Me) (x i : Int) : Me := fun a j => if a = 430 ∧ 99 ≤ j ∧ j < 99 + 3 * i ∧ (j - 99) % 3 = 0 then uqv M x ((j - 99) / 3) else M a j
theorem uq_o {M : Me} {x i a j : Int} (h : ¬ (a = 430 ∧ 99 ≤ j ∧ j < 99 + 3 * i ∧ (j - 99) % 3 = 0)) : uqA M x i a j = M a j := by unfold uqA; rw [if_neg h]
theorem rd_uq {M : Me} {x i a j z : Int} (h : ¬ (a = 430 ∧ 99 ≤ j ∧ j < 99 + 3 * i ∧ (j - 99) % 3 = 0)) (k : M a j = z) : uqA M x i a j = z := (uq_o h).trans k
theorem uq_0 {M : Me} {x : Int} : M = uqA M x 0 := by funext a j; exact (uq_o (by omega)).symm
theorem uq_s {M : Me} {x y v : Int} {i : Nat} (h0 : y = 99 + 3 * (i : Int)) (hv : v = uqv M x i) : up (uqA M x i) 430 y v = uqA M x ((i + 1 : Nat) : Int) := by
  subst h0; subst hv
  funext a j
  by_cases g0 : a = 430 ∧ j = 99 + 3 * (i : Int)
  · rw [up_eq g0]
    obtain ⟨rfl, rfl⟩ := g0
    unfold uqA
    rw [if_pos (by omega)]
    have e1 : (99 + 3 * (i : Int) - 99) / 3 = i := by omega
    rw [e1]
  · rw [up_ne g0]
    unfold uqA
    by_cases g : a = 430 ∧ 99 ≤ j ∧ j < 99 + 3 * (i : Int) ∧ (j - 99) % 3 = 0
    · rw [if_pos g, if_pos (by omega)]
    · rw [if_neg g, if_neg (by omega)]
theorem cpyx_s {M : Me} {a0 a sp dp : Int} (i : Int) {y v : Int} (h0 : 0 ≤ i) (hy : y = dp + i) (hv : v = M a0 (sp + i)) : up (cpy M a0 sp a dp i) a y v = cpy M a0 sp a dp (i + 1) := by
  subst hy; subst hv
  funext a' j
  unfold up cpy
  by_cases h : a' = a ∧ j = dp + i
  · rw [if_pos h, if_pos (by omega)]
    congr 1
    omega
  · rw [if_neg h]
    by_cases h2 : a' = a ∧ dp ≤ j ∧ j < dp + i
    · rw [if_pos h2, if_pos (by omega)]
    · rw [if_neg h2, if_neg (by omega)]
def unA (M : Me) (x nc np : Int) : Me := cpy (uqA (ucA (cpy M 430 (x + 2) 430 10 3) x nc) x np) 430 (x + 34) 430 2112 30
theorem u_219 {x y z : Int} {M : Me} {x0 u : Int} {n np : Nat} (hx : x0 = 192 + 64 * u) (hu : 0 ≤ u ∧ u < 30) (h3 : M 430 3 = u) (hn : M 430 14 = (n : Int)) (hn12 : n ≤ 12) (hp : M 430 0 = (np : Int)) (hp5 : np ≤ 5) : ∀ (m i : Nat), m + i = 30 → V kX11_undo 0 0 1 none (Ex (some (0, u)) (Sf x y z) (unA M x0 n np)) 219 [(1, 429), (0, x0), (0, (i : Int))] [] (Sf x y z) (cpy (uqA (ucA (cpy M 430 (x0 + 2) 430 10 3) x0 n) x0 np) 430 (x0 + 34) 430 2112 (i : Int)) 0 0 := by
  intro m
  induction m with
  | zero =>
    intro i hi
    obtain rfl : i = 30 := by omega
    refine r_iload_n dX11_undo_219 rfl ?_
    refine r_bipush dX11_undo_220 (by decide) (by decide) ?_
    refine r_icmp_ge (tgt := 252) dX11_undo_222 (by decide) (fun h222 => ?_) (fun h222 => by exfalso; omega)
    refine r_aload_n dX11_undo_252 rfl (by decide) ?_
    refine r_getr (x := 430) dX11_undo_253 flX11_7 sf429 (by decide) (by decide) rfl rfl ?_
    refine r_iconst dX11_undo_256 (by decide) ?_
    refine r_iald dX11_undo_257 sf430 (by decide) (by omega) (by omega) (by decide) (by first | assumption | ((repeat (first | (apply rd_ne; · omega) | (apply rd_eq; · omega) | (apply rd_out; · omega) | (apply rd_in; · omega) | (apply rd_uc; · omega) | (apply rd_uq; · omega))); first | assumption | rfl)) ?_
    refine r_iret dX11_undo_258 rfl ?_
    exact ⟨rfl, rfl, rfl⟩
  | succ m ih =>
    intro i hi
    refine r_iload_n dX11_undo_219 rfl ?_
    refine r_bipush dX11_undo_220 (by decide) (by decide) ?_
    refine r_icmp_ge (tgt := 252) dX11_undo_222 (by decide) (fun h222 => by exfalso; omega) (fun h222 => ?_)
    refine r_aload_n dX11_undo_225 rfl (by decide) ?_
    refine r_getr (x := 430) dX11_undo_226 flX11_7 sf429 (by decide) (by decide) rfl rfl ?_
    refine r_sipush dX11_undo_229 (by decide) (by decide) ?_
    refine r_iload_n dX11_undo_232 rfl ?_
    refine r_iadd dX11_undo_233 (w32_id (by omega)) ?_
    refine r_aload_n dX11_undo_234 rfl (by decide) ?_
    refine r_getr (x := 430) dX11_undo_235 flX11_7 sf429 (by decide) (by decide) rfl rfl ?_
    refine r_iload_n dX11_undo_238 rfl ?_
    refine r_bipush dX11_undo_239 (by decide) (by decide) ?_
    refine r_iadd dX11_undo_241 (w32_id (by omega)) ?_
    refine r_iload_n dX11_undo_242 rfl ?_
    refine r_iadd dX11_undo_243 (w32_id (by omega)) ?_
    refine r_iald dX11_undo_244 sf430 (by decide) (by omega) (by omega) (by decide) (by first | assumption | ((repeat (first | (apply rd_ne; · omega) | (apply rd_eq; · omega) | (apply rd_out; · omega) | (apply rd_in; · omega) | (apply rd_uc; · omega) | (apply rd_uq; · omega))); first | assumption | rfl)) ?_
    refine r_iast dX11_undo_245 sf430 (by decide) (by omega) (by omega) (by decide) rfl ?_
    refine r_iinc dX11_undo_246 rfl rfl (by decide) (w32_id (by omega)) st2 ?_
    refine r_goto (tgt := 219) dX11_undo_249 (by decide) ?_
    exact V.cm rfl (cpyx_s (i : Int) (by omega) (by omega) (by (repeat (first | rw [uq_o (by omega)] | rw [uc_o (by omega)] | rw [cpy_out (by omega)])); first | done | rfl | (congr 1; omega)))  (ih (i + 1) (by omega))
theorem u_158 {x y z : Int} {M : Me} {x0 u : Int} {n np : Nat} (hx : x0 = 192 + 64 * u) (hu : 0 ≤ u ∧ u < 30) (h3 : M 430 3 = u) (hn : M 430 14 = (n : Int)) (hn12 : n ≤ 12) (hp : M 430 0 = (np : Int)) (hp5 : np ≤ 5) : ∀ (m i : Nat), m + i = np → V kX11_undo 0 0 1 none (Ex (some (0, u)) (Sf x y z) (unA M x0 n np)) 158 [(1, 429), (0, x0), (0, (i : Int))] [] (Sf x y z) (uqA (ucA (cpy M 430 (x0 + 2) 430 10 3) x0 n) x0 (i : Int)) 0 0 := by
  intro m
  induction m with
  | zero =>
    intro i hi
    obtain rfl : i = np := by omega
    refine r_iload_n dX11_undo_158 rfl ?_
    refine r_aload_n dX11_undo_159 rfl (by decide) ?_
    refine r_getr (x := 430) dX11_undo_160 flX11_7 sf429 (by decide) (by decide) rfl rfl ?_
    refine r_iconst dX11_undo_163 (by decide) ?_
    refine r_iald dX11_undo_164 sf430 (by decide) (by omega) (by omega) (by decide) (by first | assumption | ((repeat (first | (apply rd_ne; · omega) | (apply rd_eq; · omega) | (apply rd_out; · omega) | (apply rd_in; · omega) | (apply rd_uc; · omega) | (apply rd_uq; · omega))); first | assumption | rfl)) ?_
    refine r_icmp_ge (tgt := 217) dX11_undo_165 (by decide) (fun h165 => ?_) (fun h165 => by exfalso; omega)
    refine r_iconst dX11_undo_217 (by decide) ?_
    refine r_istore_n dX11_undo_218 rfl (by decide) st2 ?_
    exact V.cm rfl cpy_0.symm (u_219 hx hu h3 hn hn12 hp hp5 30 0 (by omega))
  | succ m ih =>
    intro i hi
    refine r_iload_n dX11_undo_158 rfl ?_
    refine r_aload_n dX11_undo_159 rfl (by decide) ?_
    refine r_getr (x := 430) dX11_undo_160 flX11_7 sf429 (by decide) (by decide) rfl rfl ?_
    refine r_iconst dX11_undo_163 (by decide) ?_
    refine r_iald dX11_undo_164 sf430 (by decide) (by omega) (by omega) (by decide) (by first | assumption | ((repeat (first | (apply rd_ne; · omega) | (apply rd_eq; · omega) | (apply rd_out; · omega) | (apply rd_in; · omega) | (apply rd_uc; · omega) | (apply rd_uq; · omega))); first | assumption | rfl)) ?_
    refine r_icmp_ge (tgt := 217) dX11_undo_165 (by decide) (fun h165 => by exfalso; omega) (fun h165 => ?_)
    refine r_aload_n dX11_undo_168 rfl (by decide) ?_
    refine r_getr (x := 430) dX11_undo_169 flX11_7 sf429 (by decide) (by decide) rfl rfl ?_
    refine r_bipush dX11_undo_172 (by decide) (by decide) ?_
    refine r_iconst dX11_undo_174 (by decide) ?_
    refine r_iload_n dX11_undo_175 rfl ?_
    refine r_imul dX11_undo_176 (w32_id (by omega)) ?_
    refine r_iadd dX11_undo_177 (w32_id (by omega)) ?_
    refine r_iload_n dX11_undo_178 rfl ?_
    refine r_aload_n dX11_undo_179 rfl (by decide) ?_
    refine r_getr (x := 430) dX11_undo_180 flX11_7 sf429 (by decide) (by decide) rfl rfl ?_
    refine r_iload_n dX11_undo_183 rfl ?_
    refine r_iconst dX11_undo_184 (by decide) ?_
    refine r_iadd dX11_undo_185 (w32_id (by omega)) ?_
    refine r_iald dX11_undo_186 sf430 (by decide) (by omega) (by omega) (by decide) (by first | assumption | ((repeat (first | (apply rd_ne; · omega) | (apply rd_eq; · omega) | (apply rd_out; · omega) | (apply rd_in; · omega) | (apply rd_uc; · omega) | (apply rd_uq; · omega))); first | assumption | rfl)) ?_
    refine r_icmp_ge (tgt := 204) dX11_undo_187 (by decide) (fun h187 => ?_) (fun h187 => ?_)
    · refine r_aload_n dX11_undo_204 rfl (by decide) ?_
      refine r_iload_n dX11_undo_205 rfl ?_
      refine r_iconst dX11_undo_206 (by decide) ?_
      refine r_cv2 dX11_undo_207 clX11_296 sf429 (by decide) (by decide) rfl (by first | decide | omega) (Nat.le_of_ble_eq_true rfl) (c_own (by omega) (by decide)) ⟨Nat.zero_le _, Nat.zero_le _⟩ (fun _ => ?_)
      refine r_iast dX11_undo_210 sf430 (by decide) (by omega) (by omega) (by decide) rfl ?_
      refine r_iinc dX11_undo_211 rfl rfl (by decide) (w32_id (by omega)) st2 ?_
      refine r_goto (tgt := 158) dX11_undo_214 (by decide) ?_
      first | exact V.cm rfl (uq_s rfl (by unfold uqv; rw [if_pos (by (repeat (first | rw [up_ne (by omega)] | rw [uq_o (by omega)] | rw [uc_o (by omega)] | rw [cpy_out (by omega)])); omega)]; (repeat (first | rw [up_ne (by omega)] | rw [uq_o (by omega)] | rw [uc_o (by omega)] | rw [cpy_out (by omega)])); first | done | rfl | (congr 1; omega))) (ih (i + 1) (by omega)) | exact V.cm rfl (uq_s rfl (by unfold uqv; rw [if_neg (by (repeat (first | rw [up_ne (by omega)] | rw [uq_o (by omega)] | rw [uc_o (by omega)] | rw [cpy_out (by omega)])); omega)]; (repeat (first | rw [up_ne (by omega)] | rw [uq_o (by omega)] | rw [uc_o (by omega)] | rw [cpy_out (by omega)])); first | done | rfl | (congr 1; omega))) (ih (i + 1) (by omega))
    · refine r_aload_n dX11_undo_190 rfl (by decide) ?_
      refine r_getr (x := 430) dX11_undo_191 flX11_7 sf429 (by decide) (by decide) rfl rfl ?_
      refine r_iload_n dX11_undo_194 rfl ?_
      refine r_bipush dX11_undo_195 (by decide) (by decide) ?_
      refine r_iadd dX11_undo_197 (w32_id (by omega)) ?_
      refine r_iload_n dX11_undo_198 rfl ?_
      refine r_iadd dX11_undo_199 (w32_id (by omega)) ?_
      refine r_iald dX11_undo_200 sf430 (by decide) (by omega) (by omega) (by decide) (by first | assumption | ((repeat (first | (apply rd_ne; · omega) | (apply rd_eq; · omega) | (apply rd_out; · omega) | (apply rd_in; · omega) | (apply rd_uc; · omega) | (apply rd_uq; · omega))); first | assumption | rfl)) ?_
      refine r_goto (tgt := 210) dX11_undo_201 (by decide) ?_
      refine r_iast dX11_undo_210 sf430 (by decide) (by omega) (by omega) (by decide) rfl ?_
      refine r_iinc dX11_undo_211 rfl rfl (by decide) (w32_id (by omega)) st2 ?_
      refine r_goto (tgt := 158) dX11_undo_214 (by decide) ?_
      first | exact V.cm rfl (uq_s rfl (by unfold uqv; rw [if_pos (by (repeat (first | rw [up_ne (by omega)] | rw [uq_o (by omega)] | rw [uc_o (by omega)] | rw [cpy_out (by omega)])); omega)]; (repeat (first | rw [up_ne (by omega)] | rw [uq_o (by omega)] | rw [uc_o (by omega)] | rw [cpy_out (by omega)])); first | done | rfl | (congr 1; omega))) (ih (i + 1) (by omega)) | exact V.cm rfl (uq_s rfl (by unfold uqv; rw [if_neg (by (repeat (first | rw [up_ne (by omega)] | rw [uq_o (by omega)] | rw [uc_o (by omega)] | rw [cpy_out (by omega)])); omega)]; (repeat (first | rw [up_ne (by omega)] | rw [uq_o (by omega)] | rw [uc_o (by omega)] | rw [cpy_out (by omega)])); first | done | rfl | (congr 1; omega))) (ih (i + 1) (by omega))
theorem u_69 {x y z : Int} {M : Me} {x0 u : Int} {n np : Nat} (hx : x0 = 192 + 64 * u) (hu : 0 ≤ u ∧ u < 30) (h3 : M 430 3 = u) (hn : M 430 14 = (n : Int)) (hn12 : n ≤ 12) (hp : M 430 0 = (np : Int)) (hp5 : np ≤ 5) : ∀ (m i : Nat), m + i = n → V kX11_undo 0 0 1 none (Ex (some (0, u)) (Sf x y z) (unA M x0 n np)) 69 [(1, 429), (0, x0), (0, (i : Int))] [] (Sf x y z) (ucA (cpy M 430 (x0 + 2) 430 10 3) x0 (i : Int)) 0 0 := by
  intro m
  induction m with
  | zero =>
    intro i hi
    obtain rfl : i = n := by omega
    refine r_iload_n dX11_undo_69 rfl ?_
    refine r_aload_n dX11_undo_70 rfl (by decide) ?_
    refine r_getr (x := 430) dX11_undo_71 flX11_7 sf429 (by decide) (by decide) rfl rfl ?_
    refine r_bipush dX11_undo_74 (by decide) (by decide) ?_
    refine r_iald dX11_undo_76 sf430 (by decide) (by omega) (by omega) (by decide) (by first | assumption | ((repeat (first | (apply rd_ne; · omega) | (apply rd_eq; · omega) | (apply rd_out; · omega) | (apply rd_in; · omega) | (apply rd_uc; · omega) | (apply rd_uq; · omega))); first | assumption | rfl)) ?_
    refine r_icmp_ge (tgt := 156) dX11_undo_77 (by decide) (fun h77 => ?_) (fun h77 => by exfalso; omega)
    refine r_iconst dX11_undo_156 (by decide) ?_
    refine r_istore_n dX11_undo_157 rfl (by decide) st2 ?_
    exact V.cm rfl uq_0 (u_158 hx hu h3 hn hn12 hp hp5 np 0 (by omega))
  | succ m ih =>
    intro i hi
    refine r_iload_n dX11_undo_69 rfl ?_
    refine r_aload_n dX11_undo_70 rfl (by decide) ?_
    refine r_getr (x := 430) dX11_undo_71 flX11_7 sf429 (by decide) (by decide) rfl rfl ?_
    refine r_bipush dX11_undo_74 (by decide) (by decide) ?_
    refine r_iald dX11_undo_76 sf430 (by decide) (by omega) (by omega) (by decide) (by first | assumption | ((repeat (first | (apply rd_ne; · omega) | (apply rd_eq; · omega) | (apply rd_out; · omega) | (apply rd_in; · omega) | (apply rd_uc; · omega) | (apply rd_uq; · omega))); first | assumption | rfl)) ?_
    refine r_icmp_ge (tgt := 156) dX11_undo_77 (by decide) (fun h77 => by exfalso; omega) (fun h77 => ?_)
    refine r_aload_n dX11_undo_80 rfl (by decide) ?_
    refine r_iload_n dX11_undo_81 rfl ?_
    refine r_iconst dX11_undo_82 (by decide) ?_
    refine r_iload_n dX11_undo_83 rfl ?_
    refine r_aload_n dX11_undo_84 rfl (by decide) ?_
    refine r_getr (x := 430) dX11_undo_85 flX11_7 sf429 (by decide) (by decide) rfl rfl ?_
    refine r_iload_n dX11_undo_88 rfl ?_
    refine r_iald dX11_undo_89 sf430 (by decide) (by omega) (by omega) (by decide) (by first | assumption | ((repeat (first | (apply rd_ne; · omega) | (apply rd_eq; · omega) | (apply rd_out; · omega) | (apply rd_in; · omega) | (apply rd_uc; · omega) | (apply rd_uq; · omega))); first | assumption | rfl)) ?_
    refine r_icmp_ge (tgt := 108) dX11_undo_90 (by decide) (fun h90 => ?_) (fun h90 => ?_)
    · refine r_aload_n dX11_undo_108 rfl (by decide) ?_
      refine r_iload_n dX11_undo_109 rfl ?_
      refine r_iconst dX11_undo_110 (by decide) ?_
      refine r_cv2 dX11_undo_111 clX11_66 sf429 (by decide) (by decide) rfl (by first | decide | omega) (Nat.le_of_ble_eq_true rfl) (c_get (by omega) (by omega)) ⟨Nat.zero_le _, Nat.zero_le _⟩ (fun _ => ?_)
      refine r_cw3 dX11_undo_114 clX11_77 sf429 (by decide) (by decide) rfl (by first | decide | omega) (Nat.le_of_ble_eq_true rfl) (c_put (by omega) (by omega)) ⟨Nat.zero_le _, Nat.zero_le _⟩ ?_
      refine r_aload_n dX11_undo_117 rfl (by decide) ?_
      refine r_iload_n dX11_undo_118 rfl ?_
      refine r_iconst dX11_undo_119 (by decide) ?_
      refine r_iload_n dX11_undo_120 rfl ?_
      refine r_aload_n dX11_undo_121 rfl (by decide) ?_
      refine r_getr (x := 430) dX11_undo_122 flX11_7 sf429 (by decide) (by decide) rfl rfl ?_
      refine r_iload_n dX11_undo_125 rfl ?_
      refine r_iald dX11_undo_126 sf430 (by decide) (by omega) (by omega) (by decide) (by first | assumption | ((repeat (first | (apply rd_ne; · omega) | (apply rd_eq; · omega) | (apply rd_out; · omega) | (apply rd_in; · omega) | (apply rd_uc; · omega) | (apply rd_uq; · omega))); first | assumption | rfl)) ?_
      refine r_icmp_ge (tgt := 146) dX11_undo_127 (by decide) (fun h127 => ?_) (fun h127 => ?_)
      · refine r_iconst dX11_undo_146 (by decide) ?_
        refine r_cw3 dX11_undo_147 clX11_77 sf429 (by decide) (by decide) rfl (by first | decide | omega) (Nat.le_of_ble_eq_true rfl) (c_put (by omega) (by omega)) ⟨Nat.zero_le _, Nat.zero_le _⟩ ?_
        refine r_iinc dX11_undo_150 rfl rfl (by decide) (w32_id (by omega)) st2 ?_
        refine r_goto (tgt := 69) dX11_undo_153 (by decide) ?_
        first | (exfalso; omega) | exact V.cm rfl (uc_s (by omega) rfl (by unfold ucv; first | (rw [if_pos (by (repeat (first | rw [up_ne (by omega)] | rw [uq_o (by omega)] | rw [uc_o (by omega)] | rw [cpy_out (by omega)])); omega)]; (repeat (first | rw [up_ne (by omega)] | rw [uq_o (by omega)] | rw [uc_o (by omega)] | rw [cpy_out (by omega)])); first | done | rfl | (congr 1; omega)) | (rw [if_pos (by (repeat (first | rw [up_ne (by omega)] | rw [uq_o (by omega)] | rw [uc_o (by omega)] | rw [cpy_out (by omega)])); omega), if_pos rfl]; (repeat (first | rw [up_ne (by omega)] | rw [uq_o (by omega)] | rw [uc_o (by omega)] | rw [cpy_out (by omega)])); first | done | rfl | (congr 1; omega)) | (rw [if_pos (by (repeat (first | rw [up_ne (by omega)] | rw [uq_o (by omega)] | rw [uc_o (by omega)] | rw [cpy_out (by omega)])); omega), if_neg (by decide)])) (by unfold ucv; first | (rw [if_pos (by (repeat (first | rw [up_ne (by omega)] | rw [uq_o (by omega)] | rw [uc_o (by omega)] | rw [cpy_out (by omega)])); omega)]; (repeat (first | rw [up_ne (by omega)] | rw [uq_o (by omega)] | rw [uc_o (by omega)] | rw [cpy_out (by omega)])); first | done | rfl | (congr 1; omega)) | (rw [if_pos (by (repeat (first | rw [up_ne (by omega)] | rw [uq_o (by omega)] | rw [uc_o (by omega)] | rw [cpy_out (by omega)])); omega), if_pos rfl]; (repeat (first | rw [up_ne (by omega)] | rw [uq_o (by omega)] | rw [uc_o (by omega)] | rw [cpy_out (by omega)])); first | done | rfl | (congr 1; omega)) | (rw [if_pos (by (repeat (first | rw [up_ne (by omega)] | rw [uq_o (by omega)] | rw [uc_o (by omega)] | rw [cpy_out (by omega)])); omega), if_neg (by decide)]))) (ih (i + 1) (by omega)) | exact V.cm rfl (uc_s (by omega) rfl (by unfold ucv; first | (rw [if_neg (by (repeat (first | rw [up_ne (by omega)] | rw [uq_o (by omega)] | rw [uc_o (by omega)] | rw [cpy_out (by omega)])); omega)]; (repeat (first | rw [up_ne (by omega)] | rw [uq_o (by omega)] | rw [uc_o (by omega)] | rw [cpy_out (by omega)])); first | done | rfl | (congr 1; omega)) | (rw [if_neg (by (repeat (first | rw [up_ne (by omega)] | rw [uq_o (by omega)] | rw [uc_o (by omega)] | rw [cpy_out (by omega)])); omega), if_pos rfl]; (repeat (first | rw [up_ne (by omega)] | rw [uq_o (by omega)] | rw [uc_o (by omega)] | rw [cpy_out (by omega)])); first | done | rfl | (congr 1; omega)) | (rw [if_neg (by (repeat (first | rw [up_ne (by omega)] | rw [uq_o (by omega)] | rw [uc_o (by omega)] | rw [cpy_out (by omega)])); omega), if_neg (by decide)])) (by unfold ucv; first | (rw [if_neg (by (repeat (first | rw [up_ne (by omega)] | rw [uq_o (by omega)] | rw [uc_o (by omega)] | rw [cpy_out (by omega)])); omega)]; (repeat (first | rw [up_ne (by omega)] | rw [uq_o (by omega)] | rw [uc_o (by omega)] | rw [cpy_out (by omega)])); first | done | rfl | (congr 1; omega)) | (rw [if_neg (by (repeat (first | rw [up_ne (by omega)] | rw [uq_o (by omega)] | rw [uc_o (by omega)] | rw [cpy_out (by omega)])); omega), if_pos rfl]; (repeat (first | rw [up_ne (by omega)] | rw [uq_o (by omega)] | rw [uc_o (by omega)] | rw [cpy_out (by omega)])); first | done | rfl | (congr 1; omega)) | (rw [if_neg (by (repeat (first | rw [up_ne (by omega)] | rw [uq_o (by omega)] | rw [uc_o (by omega)] | rw [cpy_out (by omega)])); omega), if_neg (by decide)]))) (ih (i + 1) (by omega))
      · refine r_aload_n dX11_undo_130 rfl (by decide) ?_
        refine r_getr (x := 430) dX11_undo_131 flX11_7 sf429 (by decide) (by decide) rfl rfl ?_
        refine r_iload_n dX11_undo_134 rfl ?_
        refine r_bipush dX11_undo_135 (by decide) (by decide) ?_
        refine r_iadd dX11_undo_137 (w32_id (by omega)) ?_
        refine r_iconst dX11_undo_138 (by decide) ?_
        refine r_iload_n dX11_undo_139 rfl ?_
        refine r_imul dX11_undo_140 (w32_id (by omega)) ?_
        refine r_iadd dX11_undo_141 (w32_id (by omega)) ?_
        refine r_iald dX11_undo_142 sf430 (by decide) (by omega) (by omega) (by decide) (by first | assumption | ((repeat (first | (apply rd_ne; · omega) | (apply rd_eq; · omega) | (apply rd_out; · omega) | (apply rd_in; · omega) | (apply rd_uc; · omega) | (apply rd_uq; · omega))); first | assumption | rfl)) ?_
        refine r_goto (tgt := 147) dX11_undo_143 (by decide) ?_
        refine r_cw3 dX11_undo_147 clX11_77 sf429 (by decide) (by decide) rfl (by first | decide | omega) (Nat.le_of_ble_eq_true rfl) (c_put (by omega) (by omega)) ⟨Nat.zero_le _, Nat.zero_le _⟩ ?_
        refine r_iinc dX11_undo_150 rfl rfl (by decide) (w32_id (by omega)) st2 ?_
        refine r_goto (tgt := 69) dX11_undo_153 (by decide) ?_
        first | (exfalso; omega) | exact V.cm rfl (uc_s (by omega) rfl (by unfold ucv; first | (rw [if_pos (by (repeat (first | rw [up_ne (by omega)] | rw [uq_o (by omega)] | rw [uc_o (by omega)] | rw [cpy_out (by omega)])); omega)]; (repeat (first | rw [up_ne (by omega)] | rw [uq_o (by omega)] | rw [uc_o (by omega)] | rw [cpy_out (by omega)])); first | done | rfl | (congr 1; omega)) | (rw [if_pos (by (repeat (first | rw [up_ne (by omega)] | rw [uq_o (by omega)] | rw [uc_o (by omega)] | rw [cpy_out (by omega)])); omega), if_pos rfl]; (repeat (first | rw [up_ne (by omega)] | rw [uq_o (by omega)] | rw [uc_o (by omega)] | rw [cpy_out (by omega)])); first | done | rfl | (congr 1; omega)) | (rw [if_pos (by (repeat (first | rw [up_ne (by omega)] | rw [uq_o (by omega)] | rw [uc_o (by omega)] | rw [cpy_out (by omega)])); omega), if_neg (by decide)])) (by unfold ucv; first | (rw [if_pos (by (repeat (first | rw [up_ne (by omega)] | rw [uq_o (by omega)] | rw [uc_o (by omega)] | rw [cpy_out (by omega)])); omega)]; (repeat (first | rw [up_ne (by omega)] | rw [uq_o (by omega)] | rw [uc_o (by omega)] | rw [cpy_out (by omega)])); first | done | rfl | (congr 1; omega)) | (rw [if_pos (by (repeat (first | rw [up_ne (by omega)] | rw [uq_o (by omega)] | rw [uc_o (by omega)] | rw [cpy_out (by omega)])); omega), if_pos rfl]; (repeat (first | rw [up_ne (by omega)] | rw [uq_o (by omega)] | rw [uc_o (by omega)] | rw [cpy_out (by omega)])); first | done | rfl | (congr 1; omega)) | (rw [if_pos (by (repeat (first | rw [up_ne (by omega)] | rw [uq_o (by omega)] | rw [uc_o (by omega)] | rw [cpy_out (by omega)])); omega), if_neg (by decide)]))) (ih (i + 1) (by omega)) | exact V.cm rfl (uc_s (by omega) rfl (by unfold ucv; first | (rw [if_neg (by (repeat (first | rw [up_ne (by omega)] | rw [uq_o (by omega)] | rw [uc_o (by omega)] | rw [cpy_out (by omega)])); omega)]; (repeat (first | rw [up_ne (by omega)] | rw [uq_o (by omega)] | rw [uc_o (by omega)] | rw [cpy_out (by omega)])); first | done | rfl | (congr 1; omega)) | (rw [if_neg (by (repeat (first | rw [up_ne (by omega)] | rw [uq_o (by omega)] | rw [uc_o (by omega)] | rw [cpy_out (by omega)])); omega), if_pos rfl]; (repeat (first | rw [up_ne (by omega)] | rw [uq_o (by omega)] | rw [uc_o (by omega)] | rw [cpy_out (by omega)])); first | done | rfl | (congr 1; omega)) | (rw [if_neg (by (repeat (first | rw [up_ne (by omega)] | rw [uq_o (by omega)] | rw [uc_o (by omega)] | rw [cpy_out (by omega)])); omega), if_neg (by decide)])) (by unfold ucv; first | (rw [if_neg (by (repeat (first | rw [up_ne (by omega)] | rw [uq_o (by omega)] | rw [uc_o (by omega)] | rw [cpy_out (by omega)])); omega)]; (repeat (first | rw [up_ne (by omega)] | rw [uq_o (by omega)] | rw [uc_o (by omega)] | rw [cpy_out (by omega)])); first | done | rfl | (congr 1; omega)) | (rw [if_neg (by (repeat (first | rw [up_ne (by omega)] | rw [uq_o (by omega)] | rw [uc_o (by omega)] | rw [cpy_out (by omega)])); omega), if_pos rfl]; (repeat (first | rw [up_ne (by omega)] | rw [uq_o (by omega)] | rw [uc_o (by omega)] | rw [cpy_out (by omega)])); first | done | rfl | (congr 1; omega)) | (rw [if_neg (by (repeat (first | rw [up_ne (by omega)] | rw [uq_o (by omega)] | rw [uc_o (by omega)] | rw [cpy_out (by omega)])); omega), if_neg (by decide)]))) (ih (i + 1) (by omega))
    · refine r_aload_n dX11_undo_93 rfl (by decide) ?_
      refine r_getr (x := 430) dX11_undo_94 flX11_7 sf429 (by decide) (by decide) rfl rfl ?_
      refine r_iload_n dX11_undo_97 rfl ?_
      refine r_iconst dX11_undo_98 (by decide) ?_
      refine r_iadd dX11_undo_99 (w32_id (by omega)) ?_
      refine r_iconst dX11_undo_100 (by decide) ?_
      refine r_iload_n dX11_undo_101 rfl ?_
      refine r_imul dX11_undo_102 (w32_id (by omega)) ?_
      refine r_iadd dX11_undo_103 (w32_id (by omega)) ?_
      refine r_iald dX11_undo_104 sf430 (by decide) (by omega) (by omega) (by decide) (by first | assumption | ((repeat (first | (apply rd_ne; · omega) | (apply rd_eq; · omega) | (apply rd_out; · omega) | (apply rd_in; · omega) | (apply rd_uc; · omega) | (apply rd_uq; · omega))); first | assumption | rfl)) ?_
      refine r_goto (tgt := 114) dX11_undo_105 (by decide) ?_
      refine r_cw3 dX11_undo_114 clX11_77 sf429 (by decide) (by decide) rfl (by first | decide | omega) (Nat.le_of_ble_eq_true rfl) (c_put (by omega) (by omega)) ⟨Nat.zero_le _, Nat.zero_le _⟩ ?_
      refine r_aload_n dX11_undo_117 rfl (by decide) ?_
      refine r_iload_n dX11_undo_118 rfl ?_
      refine r_iconst dX11_undo_119 (by decide) ?_
      refine r_iload_n dX11_undo_120 rfl ?_
      refine r_aload_n dX11_undo_121 rfl (by decide) ?_
      refine r_getr (x := 430) dX11_undo_122 flX11_7 sf429 (by decide) (by decide) rfl rfl ?_
      refine r_iload_n dX11_undo_125 rfl ?_
      refine r_iald dX11_undo_126 sf430 (by decide) (by omega) (by omega) (by decide) (by first | assumption | ((repeat (first | (apply rd_ne; · omega) | (apply rd_eq; · omega) | (apply rd_out; · omega) | (apply rd_in; · omega) | (apply rd_uc; · omega) | (apply rd_uq; · omega))); first | assumption | rfl)) ?_
      refine r_icmp_ge (tgt := 146) dX11_undo_127 (by decide) (fun h127 => ?_) (fun h127 => ?_)
      · refine r_iconst dX11_undo_146 (by decide) ?_
        refine r_cw3 dX11_undo_147 clX11_77 sf429 (by decide) (by decide) rfl (by first | decide | omega) (Nat.le_of_ble_eq_true rfl) (c_put (by omega) (by omega)) ⟨Nat.zero_le _, Nat.zero_le _⟩ ?_
        refine r_iinc dX11_undo_150 rfl rfl (by decide) (w32_id (by omega)) st2 ?_
        refine r_goto (tgt := 69) dX11_undo_153 (by decide) ?_
        first | (exfalso; omega) | exact V.cm rfl (uc_s (by omega) rfl (by unfold ucv; first | (rw [if_pos (by (repeat (first | rw [up_ne (by omega)] | rw [uq_o (by omega)] | rw [uc_o (by omega)] | rw [cpy_out (by omega)])); omega)]; (repeat (first | rw [up_ne (by omega)] | rw [uq_o (by omega)] | rw [uc_o (by omega)] | rw [cpy_out (by omega)])); first | done | rfl | (congr 1; omega)) | (rw [if_pos (by (repeat (first | rw [up_ne (by omega)] | rw [uq_o (by omega)] | rw [uc_o (by omega)] | rw [cpy_out (by omega)])); omega), if_pos rfl]; (repeat (first | rw [up_ne (by omega)] | rw [uq_o (by omega)] | rw [uc_o (by omega)] | rw [cpy_out (by omega)])); first | done | rfl | (congr 1; omega)) | (rw [if_pos (by (repeat (first | rw [up_ne (by omega)] | rw [uq_o (by omega)] | rw [uc_o (by omega)] | rw [cpy_out (by omega)])); omega), if_neg (by decide)])) (by unfold ucv; first | (rw [if_pos (by (repeat (first | rw [up_ne (by omega)] | rw [uq_o (by omega)] | rw [uc_o (by omega)] | rw [cpy_out (by omega)])); omega)]; (repeat (first | rw [up_ne (by omega)] | rw [uq_o (by omega)] | rw [uc_o (by omega)] | rw [cpy_out (by omega)])); first | done | rfl | (congr 1; omega)) | (rw [if_pos (by (repeat (first | rw [up_ne (by omega)] | rw [uq_o (by omega)] | rw [uc_o (by omega)] | rw [cpy_out (by omega)])); omega), if_pos rfl]; (repeat (first | rw [up_ne (by omega)] | rw [uq_o (by omega)] | rw [uc_o (by omega)] | rw [cpy_out (by omega)])); first | done | rfl | (congr 1; omega)) | (rw [if_pos (by (repeat (first | rw [up_ne (by omega)] | rw [uq_o (by omega)] | rw [uc_o (by omega)] | rw [cpy_out (by omega)])); omega), if_neg (by decide)]))) (ih (i + 1) (by omega)) | exact V.cm rfl (uc_s (by omega) rfl (by unfold ucv; first | (rw [if_neg (by (repeat (first | rw [up_ne (by omega)] | rw [uq_o (by omega)] | rw [uc_o (by omega)] | rw [cpy_out (by omega)])); omega)]; (repeat (first | rw [up_ne (by omega)] | rw [uq_o (by omega)] | rw [uc_o (by omega)] | rw [cpy_out (by omega)])); first | done | rfl | (congr 1; omega)) | (rw [if_neg (by (repeat (first | rw [up_ne (by omega)] | rw [uq_o (by omega)] | rw [uc_o (by omega)] | rw [cpy_out (by omega)])); omega), if_pos rfl]; (repeat (first | rw [up_ne (by omega)] | rw [uq_o (by omega)] | rw [uc_o (by omega)] | rw [cpy_out (by omega)])); first | done | rfl | (congr 1; omega)) | (rw [if_neg (by (repeat (first | rw [up_ne (by omega)] | rw [uq_o (by omega)] | rw [uc_o (by omega)] | rw [cpy_out (by omega)])); omega), if_neg (by decide)])) (by unfold ucv; first | (rw [if_neg (by (repeat (first | rw [up_ne (by omega)] | rw [uq_o (by omega)] | rw [uc_o (by omega)] | rw [cpy_out (by omega)])); omega)]; (repeat (first | rw [up_ne (by omega)] | rw [uq_o (by omega)] | rw [uc_o (by omega)] | rw [cpy_out (by omega)])); first | done | rfl | (congr 1; omega)) | (rw [if_neg (by (repeat (first | rw [up_ne (by omega)] | rw [uq_o (by omega)] | rw [uc_o (by omega)] | rw [cpy_out (by omega)])); omega), if_pos rfl]; (repeat (first | rw [up_ne (by omega)] | rw [uq_o (by omega)] | rw [uc_o (by omega)] | rw [cpy_out (by omega)])); first | done | rfl | (congr 1; omega)) | (rw [if_neg (by (repeat (first | rw [up_ne (by omega)] | rw [uq_o (by omega)] | rw [uc_o (by omega)] | rw [cpy_out (by omega)])); omega), if_neg (by decide)]))) (ih (i + 1) (by omega))
      · refine r_aload_n dX11_undo_130 rfl (by decide) ?_
        refine r_getr (x := 430) dX11_undo_131 flX11_7 sf429 (by decide) (by decide) rfl rfl ?_
        refine r_iload_n dX11_undo_134 rfl ?_
        refine r_bipush dX11_undo_135 (by decide) (by decide) ?_
        refine r_iadd dX11_undo_137 (w32_id (by omega)) ?_
        refine r_iconst dX11_undo_138 (by decide) ?_
        refine r_iload_n dX11_undo_139 rfl ?_
        refine r_imul dX11_undo_140 (w32_id (by omega)) ?_
        refine r_iadd dX11_undo_141 (w32_id (by omega)) ?_
        refine r_iald dX11_undo_142 sf430 (by decide) (by omega) (by omega) (by decide) (by first | assumption | ((repeat (first | (apply rd_ne; · omega) | (apply rd_eq; · omega) | (apply rd_out; · omega) | (apply rd_in; · omega) | (apply rd_uc; · omega) | (apply rd_uq; · omega))); first | assumption | rfl)) ?_
        refine r_goto (tgt := 147) dX11_undo_143 (by decide) ?_
        refine r_cw3 dX11_undo_147 clX11_77 sf429 (by decide) (by decide) rfl (by first | decide | omega) (Nat.le_of_ble_eq_true rfl) (c_put (by omega) (by omega)) ⟨Nat.zero_le _, Nat.zero_le _⟩ ?_
        refine r_iinc dX11_undo_150 rfl rfl (by decide) (w32_id (by omega)) st2 ?_
        refine r_goto (tgt := 69) dX11_undo_153 (by decide) ?_
        first | (exfalso; omega) | exact V.cm rfl (uc_s (by omega) rfl (by unfold ucv; first | (rw [if_pos (by (repeat (first | rw [up_ne (by omega)] | rw [uq_o (by omega)] | rw [uc_o (by omega)] | rw [cpy_out (by omega)])); omega)]; (repeat (first | rw [up_ne (by omega)] | rw [uq_o (by omega)] | rw [uc_o (by omega)] | rw [cpy_out (by omega)])); first | done | rfl | (congr 1; omega)) | (rw [if_pos (by (repeat (first | rw [up_ne (by omega)] | rw [uq_o (by omega)] | rw [uc_o (by omega)] | rw [cpy_out (by omega)])); omega), if_pos rfl]; (repeat (first | rw [up_ne (by omega)] | rw [uq_o (by omega)] | rw [uc_o (by omega)] | rw [cpy_out (by omega)])); first | done | rfl | (congr 1; omega)) | (rw [if_pos (by (repeat (first | rw [up_ne (by omega)] | rw [uq_o (by omega)] | rw [uc_o (by omega)] | rw [cpy_out (by omega)])); omega), if_neg (by decide)])) (by unfold ucv; first | (rw [if_pos (by (repeat (first | rw [up_ne (by omega)] | rw [uq_o (by omega)] | rw [uc_o (by omega)] | rw [cpy_out (by omega)])); omega)]; (repeat (first | rw [up_ne (by omega)] | rw [uq_o (by omega)] | rw [uc_o (by omega)] | rw [cpy_out (by omega)])); first | done | rfl | (congr 1; omega)) | (rw [if_pos (by (repeat (first | rw [up_ne (by omega)] | rw [uq_o (by omega)] | rw [uc_o (by omega)] | rw [cpy_out (by omega)])); omega), if_pos rfl]; (repeat (first | rw [up_ne (by omega)] | rw [uq_o (by omega)] | rw [uc_o (by omega)] | rw [cpy_out (by omega)])); first | done | rfl | (congr 1; omega)) | (rw [if_pos (by (repeat (first | rw [up_ne (by omega)] | rw [uq_o (by omega)] | rw [uc_o (by omega)] | rw [cpy_out (by omega)])); omega), if_neg (by decide)]))) (ih (i + 1) (by omega)) | exact V.cm rfl (uc_s (by omega) rfl (by unfold ucv; first | (rw [if_neg (by (repeat (first | rw [up_ne (by omega)] | rw [uq_o (by omega)] | rw [uc_o (by omega)] | rw [cpy_out (by omega)])); omega)]; (repeat (first | rw [up_ne (by omega)] | rw [uq_o (by omega)] | rw [uc_o (by omega)] | rw [cpy_out (by omega)])); first | done | rfl | (congr 1; omega)) | (rw [if_neg (by (repeat (first | rw [up_ne (by omega)] | rw [uq_o (by omega)] | rw [uc_o (by omega)] | rw [cpy_out (by omega)])); omega), if_pos rfl]; (repeat (first | rw [up_ne (by omega)] | rw [uq_o (by omega)] | rw [uc_o (by omega)] | rw [cpy_out (by omega)])); first | done | rfl | (congr 1; omega)) | (rw [if_neg (by (repeat (first | rw [up_ne (by omega)] | rw [uq_o (by omega)] | rw [uc_o (by omega)] | rw [cpy_out (by omega)])); omega), if_neg (by decide)])) (by unfold ucv; first | (rw [if_neg (by (repeat (first | rw [up_ne (by omega)] | rw [uq_o (by omega)] | rw [uc_o (by omega)] | rw [cpy_out (by omega)])); omega)]; (repeat (first | rw [up_ne (by omega)] | rw [uq_o (by omega)] | rw [uc_o (by omega)] | rw [cpy_out (by omega)])); first | done | rfl | (congr 1; omega)) | (rw [if_neg (by (repeat (first | rw [up_ne (by omega)] | rw [uq_o (by omega)] | rw [uc_o (by omega)] | rw [cpy_out (by omega)])); omega), if_pos rfl]; (repeat (first | rw [up_ne (by omega)] | rw [uq_o (by omega)] | rw [uc_o (by omega)] | rw [cpy_out (by omega)])); first | done | rfl | (congr 1; omega)) | (rw [if_neg (by (repeat (first | rw [up_ne (by omega)] | rw [uq_o (by omega)] | rw [uc_o (by omega)] | rw [cpy_out (by omega)])); omega), if_neg (by decide)]))) (ih (i + 1) (by omega))
theorem u_34 {x y z : Int} {M : Me} {x0 u : Int} {n np : Nat} (hx : x0 = 192 + 64 * u) (hu : 0 ≤ u ∧ u < 30) (h3 : M 430 3 = u) (hn : M 430 14 = (n : Int)) (hn12 : n ≤ 12) (hp : M 430 0 = (np : Int)) (hp5 : np ≤ 5) : V kX11_undo 0 0 1 none (Ex (some (0, u)) (Sf x y z) (unA M x0 n np)) 35 [(1, 429), (0, x0), (9, 0)] [] (Sf x y z) M 0 0 := by
  refine V.cm rfl (cpy_0 (a0 := 430) (sp := x0 + 2) (a := 430) (dp := 10)).symm ?_
  refine r_iconst dX11_undo_35 (by decide) ?_
  refine r_istore_n dX11_undo_36 rfl (by decide) st2 ?_
  refine r_iload_n dX11_undo_37 rfl ?_
  refine r_iconst dX11_undo_38 (by decide) ?_
  refine r_icmp_ge (tgt := 67) dX11_undo_39 (by decide) (fun h39 => by exfalso; omega) (fun h39 => ?_)
  refine r_aload_n dX11_undo_42 rfl (by decide) ?_
  refine r_getr (x := 430) dX11_undo_43 flX11_7 sf429 (by decide) (by decide) rfl rfl ?_
  refine r_bipush dX11_undo_46 (by decide) (by decide) ?_
  refine r_iload_n dX11_undo_48 rfl ?_
  refine r_iadd dX11_undo_49 (w32_id (by omega)) ?_
  refine r_aload_n dX11_undo_50 rfl (by decide) ?_
  refine r_getr (x := 430) dX11_undo_51 flX11_7 sf429 (by decide) (by decide) rfl rfl ?_
  refine r_iload_n dX11_undo_54 rfl ?_
  refine r_iconst dX11_undo_55 (by decide) ?_
  refine r_iadd dX11_undo_56 (w32_id (by omega)) ?_
  refine r_iload_n dX11_undo_57 rfl ?_
  refine r_iadd dX11_undo_58 (w32_id (by omega)) ?_
  refine r_iald dX11_undo_59 sf430 (by decide) (by omega) (by omega) (by decide) (by first | assumption | ((repeat (first | (apply rd_ne; · omega) | (apply rd_eq; · omega) | (apply rd_out; · omega) | (apply rd_in; · omega) | (apply rd_uc; · omega) | (apply rd_uq; · omega))); first | assumption | rfl)) ?_
  refine r_iast dX11_undo_60 sf430 (by decide) (by omega) (by omega) (by decide) rfl ?_
  refine V.cm rfl (cpyx_s 0 (by omega) (by omega) rfl) ?_
  refine r_iinc dX11_undo_61 rfl rfl (by decide) (w32_id (by omega)) st2 ?_
  refine r_goto (tgt := 37) dX11_undo_64 (by decide) ?_
  refine r_iload_n dX11_undo_37 rfl ?_
  refine r_iconst dX11_undo_38 (by decide) ?_
  refine r_icmp_ge (tgt := 67) dX11_undo_39 (by decide) (fun h39 => by exfalso; omega) (fun h39 => ?_)
  refine r_aload_n dX11_undo_42 rfl (by decide) ?_
  refine r_getr (x := 430) dX11_undo_43 flX11_7 sf429 (by decide) (by decide) rfl rfl ?_
  refine r_bipush dX11_undo_46 (by decide) (by decide) ?_
  refine r_iload_n dX11_undo_48 rfl ?_
  refine r_iadd dX11_undo_49 (w32_id (by omega)) ?_
  refine r_aload_n dX11_undo_50 rfl (by decide) ?_
  refine r_getr (x := 430) dX11_undo_51 flX11_7 sf429 (by decide) (by decide) rfl rfl ?_
  refine r_iload_n dX11_undo_54 rfl ?_
  refine r_iconst dX11_undo_55 (by decide) ?_
  refine r_iadd dX11_undo_56 (w32_id (by omega)) ?_
  refine r_iload_n dX11_undo_57 rfl ?_
  refine r_iadd dX11_undo_58 (w32_id (by omega)) ?_
  refine r_iald dX11_undo_59 sf430 (by decide) (by omega) (by omega) (by decide) (by first | assumption | ((repeat (first | (apply rd_ne; · omega) | (apply rd_eq; · omega) | (apply rd_out; · omega) | (apply rd_in; · omega) | (apply rd_uc; · omega) | (apply rd_uq; · omega))); first | assumption | rfl)) ?_
  refine r_iast dX11_undo_60 sf430 (by decide) (by omega) (by omega) (by decide) rfl ?_
  refine V.cm rfl (cpyx_s (0 + 1) (by omega) (by omega) rfl) ?_
  refine r_iinc dX11_undo_61 rfl rfl (by decide) (w32_id (by omega)) st2 ?_
  refine r_goto (tgt := 37) dX11_undo_64 (by decide) ?_
  refine r_iload_n dX11_undo_37 rfl ?_
  refine r_iconst dX11_undo_38 (by decide) ?_
  refine r_icmp_ge (tgt := 67) dX11_undo_39 (by decide) (fun h39 => by exfalso; omega) (fun h39 => ?_)
  refine r_aload_n dX11_undo_42 rfl (by decide) ?_
  refine r_getr (x := 430) dX11_undo_43 flX11_7 sf429 (by decide) (by decide) rfl rfl ?_
  refine r_bipush dX11_undo_46 (by decide) (by decide) ?_
  refine r_iload_n dX11_undo_48 rfl ?_
  refine r_iadd dX11_undo_49 (w32_id (by omega)) ?_
  refine r_aload_n dX11_undo_50 rfl (by decide) ?_
  refine r_getr (x := 430) dX11_undo_51 flX11_7 sf429 (by decide) (by decide) rfl rfl ?_
  refine r_iload_n dX11_undo_54 rfl ?_
  refine r_iconst dX11_undo_55 (by decide) ?_
  refine r_iadd dX11_undo_56 (w32_id (by omega)) ?_
  refine r_iload_n dX11_undo_57 rfl ?_
  refine r_iadd dX11_undo_58 (w32_id (by omega)) ?_
  refine r_iald dX11_undo_59 sf430 (by decide) (by omega) (by omega) (by decide) (by first | assumption | ((repeat (first | (apply rd_ne; · omega) | (apply rd_eq; · omega) | (apply rd_out; · omega) | (apply rd_in; · omega) | (apply rd_uc; · omega) | (apply rd_uq; · omega))); first | assumption | rfl)) ?_
  refine r_iast dX11_undo_60 sf430 (by decide) (by omega) (by omega) (by decide) rfl ?_
  refine V.cm rfl (cpyx_s (0 + 1 + 1) (by omega) (by omega) rfl) ?_
  refine r_iinc dX11_undo_61 rfl rfl (by decide) (w32_id (by omega)) st2 ?_
  refine r_goto (tgt := 37) dX11_undo_64 (by decide) ?_
  refine r_iload_n dX11_undo_37 rfl ?_
  refine r_iconst dX11_undo_38 (by decide) ?_
  refine r_icmp_ge (tgt := 67) dX11_undo_39 (by decide) (fun h39 => ?_) (fun h39 => by exfalso; omega)
  refine r_iconst dX11_undo_67 (by decide) ?_
  refine r_istore_n dX11_undo_68 rfl (by decide) st2 ?_
  exact V.cm rfl uc_0 (u_69 hx hu h3 hn hn12 hp hp5 n 0 (by omega))
theorem m_undo {x y z : Int} {M : Me} {n np : Nat} (h3 : 0 ≤ M 430 3 ∧ M 430 3 ≤ 30) (hn : M 430 14 = (n : Int)) (hn12 : n ≤ 12) (hp : M 430 0 = (np : Int)) (hp5 : np ≤ 5) : Con kX11_undo 1 0 0 [(1, 429)] (Sf x y z) M (fun v9 S9 M9 => S9 = (Sf x y z) ∧ ((M 430 3 = 0) ∧ v9 = some (0, -1) ∧ M9 = M ∨ (M 430 3 ≠ 0) ∧ v9 = some (0, M 430 3 - 1) ∧ M9 = unA (up M 430 3 (M 430 3 - 1)) (192 + 64 * (M 430 3 - 1)) n np)) := by
  refine Con.ofV (al := [(1, 429), (9, 0), (9, 0)]) 2 (by decide) (Nat.le_of_ble_eq_true rfl) rfl ?_
  refine r_aload_n dX11_undo_0 rfl (by decide) ?_
  refine r_getr (x := 430) dX11_undo_1 flX11_7 sf429 (by decide) (by decide) rfl rfl ?_
  refine r_iconst dX11_undo_4 (by decide) ?_
  refine r_iald dX11_undo_5 sf430 (by decide) (by omega) (by omega) (by decide) (by first | assumption | ((repeat (first | (apply rd_ne; · omega) | (apply rd_eq; · omega) | (apply rd_out; · omega) | (apply rd_in; · omega))); first | assumption | rfl)) ?_
  refine r_if_ne (tgt := 11) dX11_undo_6 (by decide) (fun h6 => ?_) (fun h6 => ?_)
  · try have h6 := bi_1.mp h6
    refine r_aload_n dX11_undo_11 rfl (by decide) ?_
    refine r_getr (x := 430) dX11_undo_12 flX11_7 sf429 (by decide) (by decide) rfl rfl ?_
    refine r_iconst dX11_undo_15 (by decide) ?_
    refine r_dup2 dX11_undo_16 (by decide) (by decide) ?_
    refine r_iald dX11_undo_17 sf430 (by decide) (by omega) (by omega) (by decide) (by first | assumption | ((repeat (first | (apply rd_ne; · omega) | (apply rd_eq; · omega) | (apply rd_out; · omega) | (apply rd_in; · omega))); first | assumption | rfl)) ?_
    refine r_iconst dX11_undo_18 (by decide) ?_
    refine r_isub dX11_undo_19 (w32_id (by omega)) ?_
    refine r_iast dX11_undo_20 sf430 (by decide) (by omega) (by omega) (by decide) rfl ?_
    refine r_sipush dX11_undo_21 (by decide) (by decide) ?_
    refine r_bipush dX11_undo_24 (by decide) (by decide) ?_
    refine r_aload_n dX11_undo_26 rfl (by decide) ?_
    refine r_getr (x := 430) dX11_undo_27 flX11_7 sf429 (by decide) (by decide) rfl rfl ?_
    refine r_iconst dX11_undo_30 (by decide) ?_
    refine r_iald dX11_undo_31 sf430 (by decide) (by omega) (by omega) (by decide) (by first | assumption | ((repeat (first | (apply rd_ne; · omega) | (apply rd_eq; · omega) | (apply rd_out; · omega) | (apply rd_in; · omega))); first | assumption | rfl)) ?_
    refine r_imul dX11_undo_32 (w32_id (by omega)) ?_
    refine r_iadd dX11_undo_33 (w32_id (by omega)) ?_
    refine r_istore_n dX11_undo_34 rfl (by decide) st1 ?_
    exact V.mono (u_34 (u := M 430 3 - 1) rfl (by omega) (up_eq (by omega)) ((up_ne (by omega)).trans hn) hn12 ((up_ne (by omega)).trans hp) hp5) (fun v9 S9 M9 h => ⟨h.2.1, Or.inr ⟨by assumption, h.1, h.2.2⟩⟩)
  · try have h6 := bi_0.mp h6
    refine r_iconst dX11_undo_9 (by decide) ?_
    refine r_iret dX11_undo_10 rfl ?_
    first | exact ⟨rfl, Or.inl ⟨by omega, rfl, rfl⟩⟩ | exact ⟨rfl, Or.inr (⟨by omega, rfl, rfl⟩)⟩
