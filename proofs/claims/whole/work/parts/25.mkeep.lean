/-- a row of what is kept for a STEP, place by place -/
def rowv (M : Me) (t : Int) : Int := if t = 0 then M 430 14 else if t = 1 then M 430 0 else if t < 5 then M 430 (10 + (t - 2)) else if t < 29 then M 430 (15 + 7 * ((t - 5) / 2) + (t - 5) % 2) else if t < 34 then M 430 (99 + 3 * (t - 29) + 0) else M 430 (2112 + (t - 34))
def pk (M : Me) (x t : Int) : Me := fun a j => if a = 430 ∧ x ≤ j ∧ j < x + t then rowv M (j - x) else M a j
theorem pk_o {M : Me} {x t a j : Int} (h : ¬ (a = 430 ∧ x ≤ j ∧ j < x + t)) : pk M x t a j = M a j := by unfold pk; rw [if_neg h]
theorem rd_pk {M : Me} {x t a j z : Int} (h : ¬ (a = 430 ∧ x ≤ j ∧ j < x + t)) (k : M a j = z) : pk M x t a j = z := (pk_o h).trans k
theorem pk_i {M : Me} {x t j : Int} (h : x ≤ j ∧ j < x + t) : pk M x t 430 j = rowv M (j - x) := by unfold pk; rw [if_pos ⟨rfl, h⟩]
theorem pk_0 {M : Me} {x : Int} : M = pk M x 0 := by funext a j; exact (pk_o (by omega)).symm
theorem pk_s {M : Me} {x y v : Int} (t : Int) (hy : y = x + t) (h0 : 0 ≤ t) (hv : v = rowv M t) : up (pk M x t) 430 y v = pk M x (t + 1) := by
  subst hy; subst hv
  funext a j
  by_cases h : a = 430 ∧ j = x + t
  · rw [up_eq h]
    unfold pk
    rw [if_pos (by omega)]
    congr 1
    omega
  · rw [up_ne h]
    unfold pk
    by_cases h2 : a = 430 ∧ x ≤ j ∧ j < x + t
    · rw [if_pos h2, if_pos (by omega)]
    · rw [if_neg h2, if_neg (by omega)]
theorem pk_e {M : Me} {x t t' : Int} (h : t = t') : pk M x t = pk M x t' := by rw [h]
theorem row_2 {M : Me} {c k z : Int} (hc : 0 ≤ c ∧ c < 12) (hk : 0 ≤ k ∧ k < 2) (hz : z = 15 + 7 * c + k) : M 430 z = rowv M (5 + 2 * c + k) := by
  unfold rowv
  rw [if_neg (by omega), if_neg (by omega), if_neg (by omega), if_pos (by omega)]
  congr 1
  omega
theorem row_3 {M : Me} {p z : Int} (hp : 0 ≤ p ∧ p < 5) (hz : z = 99 + 3 * p + 0) : M 430 z = rowv M (29 + p) := by
  unfold rowv
  rw [if_neg (by omega), if_neg (by omega), if_neg (by omega), if_neg (by omega), if_pos (by omega)]
  congr 1
  omega
theorem row_4 {M : Me} {i z : Int} (hi : 0 ≤ i ∧ i < 30) (hz : z = 2112 + i) : M 430 z = rowv M (34 + i) := by
  unfold rowv
  rw [if_neg (by omega), if_neg (by omega), if_neg (by omega), if_neg (by omega), if_neg (by omega)]
  congr 1
  omega
theorem row_1 {M : Me} {k z : Int} (hk : 0 ≤ k ∧ k < 3) (hz : z = 10 + k) : M 430 z = rowv M (2 + k) := by
  unfold rowv
  rw [if_neg (by omega), if_neg (by omega), if_pos (by omega)]
  congr 1
  omega
theorem k_208 {x y z : Int} {M : Me} {x0 u : Int} (hx : x0 = 192 + 64 * u) (hu : 0 ≤ u ∧ u < 30) (h3 : M 430 3 = u) : ∀ (m i : Nat), m + i = 30 → V kX11_keep 0 0 1 none (Ex none (Sf x y z) (up (pk M x0 64) 430 3 (u + 1))) 208 [(1, 429), (0, x0), (0, (i : Int)), (9, 0)] [] (Sf x y z) (pk M x0 (34 + (i : Int))) 0 0 := by
  intro m
  induction m with
  | zero =>
    intro i hi
    obtain rfl : i = 30 := by omega
    refine r_iload_n dX11_keep_208 rfl ?_
    refine r_bipush dX11_keep_209 (by decide) (by decide) ?_
    refine r_icmp_ge (tgt := 241) dX11_keep_211 (by decide) (fun h211 => ?_) (fun h211 => by exfalso; omega)
    refine r_aload_n dX11_keep_241 rfl (by decide) ?_
    refine r_getr (x := 430) dX11_keep_242 flX11_7 sf429 (by decide) (by decide) rfl rfl ?_
    refine r_iconst dX11_keep_245 (by decide) ?_
    refine r_dup2 dX11_keep_246 (by decide) (by decide) ?_
    refine r_iald dX11_keep_247 sf430 (by decide) (by omega) (by omega) (by decide) (by first | assumption | ((repeat (first | (apply rd_ne; · omega) | (apply rd_eq; · omega) | (apply rd_out; · omega) | (apply rd_in; · omega) | (apply rd_pk; · omega))); first | assumption | rfl)) ?_
    refine r_iconst dX11_keep_248 (by decide) ?_
    refine r_iadd dX11_keep_249 (w32_id (by omega)) ?_
    refine r_iast dX11_keep_250 sf430 (by decide) (by omega) (by omega) (by decide) rfl ?_
    refine r_ret0 dX11_keep_251 rfl ?_
    exact ⟨rfl, rfl, rfl⟩
  | succ m ih =>
    intro i hi
    refine r_iload_n dX11_keep_208 rfl ?_
    refine r_bipush dX11_keep_209 (by decide) (by decide) ?_
    refine r_icmp_ge (tgt := 241) dX11_keep_211 (by decide) (fun h211 => by exfalso; omega) (fun h211 => ?_)
    refine r_aload_n dX11_keep_214 rfl (by decide) ?_
    refine r_getr (x := 430) dX11_keep_215 flX11_7 sf429 (by decide) (by decide) rfl rfl ?_
    refine r_iload_n dX11_keep_218 rfl ?_
    refine r_bipush dX11_keep_219 (by decide) (by decide) ?_
    refine r_iadd dX11_keep_221 (w32_id (by omega)) ?_
    refine r_iload_n dX11_keep_222 rfl ?_
    refine r_iadd dX11_keep_223 (w32_id (by omega)) ?_
    refine r_aload_n dX11_keep_224 rfl (by decide) ?_
    refine r_getr (x := 430) dX11_keep_225 flX11_7 sf429 (by decide) (by decide) rfl rfl ?_
    refine r_sipush dX11_keep_228 (by decide) (by decide) ?_
    refine r_iload_n dX11_keep_231 rfl ?_
    refine r_iadd dX11_keep_232 (w32_id (by omega)) ?_
    refine r_iald dX11_keep_233 sf430 (by decide) (by omega) (by omega) (by decide) (by first | assumption | ((repeat (first | (apply rd_ne; · omega) | (apply rd_eq; · omega) | (apply rd_out; · omega) | (apply rd_in; · omega) | (apply rd_pk; · omega))); first | assumption | rfl)) ?_
    refine r_iast dX11_keep_234 sf430 (by decide) (by omega) (by omega) (by decide) rfl ?_
    refine r_iinc dX11_keep_235 rfl rfl (by decide) (w32_id (by omega)) st2 ?_
    refine r_goto (tgt := 208) dX11_keep_238 (by decide) ?_
    exact V.cm rfl ((pk_s (34 + (i : Int)) (by omega) (by omega) (row_4 (by omega) rfl)).trans (pk_e (by omega))) (ih (i + 1) (by omega))
theorem k_178 {x y z : Int} {M : Me} {x0 u : Int} (hx : x0 = 192 + 64 * u) (hu : 0 ≤ u ∧ u < 30) (h3 : M 430 3 = u) : ∀ (m i : Nat), m + i = 5 → V kX11_keep 0 0 1 none (Ex none (Sf x y z) (up (pk M x0 64) 430 3 (u + 1))) 178 [(1, 429), (0, x0), (0, (i : Int)), (9, 0)] [] (Sf x y z) (pk M x0 (29 + (i : Int))) 0 0 := by
  intro m
  induction m with
  | zero =>
    intro i hi
    obtain rfl : i = 5 := by omega
    refine r_iload_n dX11_keep_178 rfl ?_
    refine r_iconst dX11_keep_179 (by decide) ?_
    refine r_icmp_ge (tgt := 206) dX11_keep_180 (by decide) (fun h180 => ?_) (fun h180 => by exfalso; omega)
    refine r_iconst dX11_keep_206 (by decide) ?_
    refine r_istore_n dX11_keep_207 rfl (by decide) st2 ?_
    exact k_208 hx hu h3 30 0 (by omega)
  | succ m ih =>
    intro i hi
    refine r_iload_n dX11_keep_178 rfl ?_
    refine r_iconst dX11_keep_179 (by decide) ?_
    refine r_icmp_ge (tgt := 206) dX11_keep_180 (by decide) (fun h180 => by exfalso; omega) (fun h180 => ?_)
    refine r_aload_n dX11_keep_183 rfl (by decide) ?_
    refine r_getr (x := 430) dX11_keep_184 flX11_7 sf429 (by decide) (by decide) rfl rfl ?_
    refine r_iload_n dX11_keep_187 rfl ?_
    refine r_bipush dX11_keep_188 (by decide) (by decide) ?_
    refine r_iadd dX11_keep_190 (w32_id (by omega)) ?_
    refine r_iload_n dX11_keep_191 rfl ?_
    refine r_iadd dX11_keep_192 (w32_id (by omega)) ?_
    refine r_aload_n dX11_keep_193 rfl (by decide) ?_
    refine r_iload_n dX11_keep_194 rfl ?_
    refine r_iconst dX11_keep_195 (by decide) ?_
    refine r_cv2 dX11_keep_196 clX11_296 sf429 (by decide) (by decide) rfl (by first | decide | omega) (Nat.le_of_ble_eq_true rfl) (c_own (by omega) (by decide)) ⟨Nat.zero_le _, Nat.zero_le _⟩ (fun _ => ?_)
    refine r_iast dX11_keep_199 sf430 (by decide) (by omega) (by omega) (by decide) rfl ?_
    refine r_iinc dX11_keep_200 rfl rfl (by decide) (w32_id (by omega)) st2 ?_
    refine r_goto (tgt := 178) dX11_keep_203 (by decide) ?_
    exact V.cm rfl ((pk_s (29 + (i : Int)) (by omega) (by omega) (by rw [pk_o (by omega)]; exact row_3 (by omega) (by omega))).trans (pk_e (by omega))) (ih (i + 1) (by omega))
theorem k_131 {x y z : Int} {M : Me} {x0 u : Int} (hx : x0 = 192 + 64 * u) (hu : 0 ≤ u ∧ u < 30) (h3 : M 430 3 = u) : ∀ (m i : Nat), m + i = 12 → V kX11_keep 0 0 1 none (Ex none (Sf x y z) (up (pk M x0 64) 430 3 (u + 1))) 131 [(1, 429), (0, x0), (0, (i : Int)), (9, 0)] [] (Sf x y z) (pk M x0 (5 + 2 * (i : Int))) 0 0 := by
  intro m
  induction m with
  | zero =>
    intro i hi
    obtain rfl : i = 12 := by omega
    refine r_iload_n dX11_keep_131 rfl ?_
    refine r_bipush dX11_keep_132 (by decide) (by decide) ?_
    refine r_icmp_ge (tgt := 176) dX11_keep_134 (by decide) (fun h134 => ?_) (fun h134 => by exfalso; omega)
    refine r_iconst dX11_keep_176 (by decide) ?_
    refine r_istore_n dX11_keep_177 rfl (by decide) st2 ?_
    exact k_178 hx hu h3 5 0 (by omega)
  | succ m ih =>
    intro i hi
    refine r_iload_n dX11_keep_131 rfl ?_
    refine r_bipush dX11_keep_132 (by decide) (by decide) ?_
    refine r_icmp_ge (tgt := 176) dX11_keep_134 (by decide) (fun h134 => by exfalso; omega) (fun h134 => ?_)
    refine r_iconst dX11_keep_137 (by decide) ?_
    refine r_istore_n dX11_keep_138 rfl (by decide) st3 ?_
    refine r_iload_n dX11_keep_139 rfl ?_
    refine r_iconst dX11_keep_140 (by decide) ?_
    refine r_icmp_ge (tgt := 170) dX11_keep_141 (by decide) (fun h141 => by exfalso; omega) (fun h141 => ?_)
    refine r_aload_n dX11_keep_144 rfl (by decide) ?_
    refine r_getr (x := 430) dX11_keep_145 flX11_7 sf429 (by decide) (by decide) rfl rfl ?_
    refine r_iload_n dX11_keep_148 rfl ?_
    refine r_iconst dX11_keep_149 (by decide) ?_
    refine r_iadd dX11_keep_150 (w32_id (by omega)) ?_
    refine r_iconst dX11_keep_151 (by decide) ?_
    refine r_iload_n dX11_keep_152 rfl ?_
    refine r_imul dX11_keep_153 (w32_id (by omega)) ?_
    refine r_iadd dX11_keep_154 (w32_id (by omega)) ?_
    refine r_iload_n dX11_keep_155 rfl ?_
    refine r_iadd dX11_keep_156 (w32_id (by omega)) ?_
    refine r_aload_n dX11_keep_157 rfl (by decide) ?_
    refine r_iload_n dX11_keep_158 rfl ?_
    refine r_iload_n dX11_keep_159 rfl ?_
    refine r_cv2 dX11_keep_160 clX11_66 sf429 (by decide) (by decide) rfl (by first | decide | omega) (Nat.le_of_ble_eq_true rfl) (c_get (by omega) (by omega)) ⟨Nat.zero_le _, Nat.zero_le _⟩ (fun _ => ?_)
    refine r_iast dX11_keep_163 sf430 (by decide) (by omega) (by omega) (by decide) rfl ?_
    refine V.cm rfl ((pk_s (5 + 2 * (i : Int) + 0) (by omega) (by omega) (by rw [pk_o (by omega)]; exact row_2 (c := (i : Int)) (k := 0) (by omega) (by omega) (by omega))).trans (pk_e (t' := 5 + 2 * (i : Int) + 1) (by omega))) ?_
    refine r_iinc dX11_keep_164 rfl rfl (by decide) (w32_id (by omega)) st3 ?_
    refine r_goto (tgt := 139) dX11_keep_167 (by decide) ?_
    refine r_iload_n dX11_keep_139 rfl ?_
    refine r_iconst dX11_keep_140 (by decide) ?_
    refine r_icmp_ge (tgt := 170) dX11_keep_141 (by decide) (fun h141 => by exfalso; omega) (fun h141 => ?_)
    refine r_aload_n dX11_keep_144 rfl (by decide) ?_
    refine r_getr (x := 430) dX11_keep_145 flX11_7 sf429 (by decide) (by decide) rfl rfl ?_
    refine r_iload_n dX11_keep_148 rfl ?_
    refine r_iconst dX11_keep_149 (by decide) ?_
    refine r_iadd dX11_keep_150 (w32_id (by omega)) ?_
    refine r_iconst dX11_keep_151 (by decide) ?_
    refine r_iload_n dX11_keep_152 rfl ?_
    refine r_imul dX11_keep_153 (w32_id (by omega)) ?_
    refine r_iadd dX11_keep_154 (w32_id (by omega)) ?_
    refine r_iload_n dX11_keep_155 rfl ?_
    refine r_iadd dX11_keep_156 (w32_id (by omega)) ?_
    refine r_aload_n dX11_keep_157 rfl (by decide) ?_
    refine r_iload_n dX11_keep_158 rfl ?_
    refine r_iload_n dX11_keep_159 rfl ?_
    refine r_cv2 dX11_keep_160 clX11_66 sf429 (by decide) (by decide) rfl (by first | decide | omega) (Nat.le_of_ble_eq_true rfl) (c_get (by omega) (by omega)) ⟨Nat.zero_le _, Nat.zero_le _⟩ (fun _ => ?_)
    refine r_iast dX11_keep_163 sf430 (by decide) (by omega) (by omega) (by decide) rfl ?_
    refine V.cm rfl (pk_s (5 + 2 * (i : Int) + 1) (by omega) (by omega) (by rw [pk_o (by omega)]; exact row_2 (c := (i : Int)) (k := 1) (by omega) (by omega) (by omega))) ?_
    refine r_iinc dX11_keep_164 rfl rfl (by decide) (w32_id (by omega)) st3 ?_
    refine r_goto (tgt := 139) dX11_keep_167 (by decide) ?_
    refine r_iload_n dX11_keep_139 rfl ?_
    refine r_iconst dX11_keep_140 (by decide) ?_
    refine r_icmp_ge (tgt := 170) dX11_keep_141 (by decide) (fun h141 => ?_) (fun h141 => by exfalso; omega)
    refine r_iinc dX11_keep_170 rfl rfl (by decide) (w32_id (by omega)) st2 ?_
    refine r_goto (tgt := 131) dX11_keep_173 (by decide) ?_
    exact wk3 (V.cm rfl (pk_e (by omega)) (ih (i + 1) (by omega)))
theorem k_70 {x y z : Int} {M : Me} {x0 u : Int} (hx : x0 = 192 + 64 * u) (hu : 0 ≤ u ∧ u < 30) (h3 : M 430 3 = u) : V kX11_keep 0 0 1 none (Ex none (Sf x y z) (up (pk M x0 64) 430 3 (u + 1))) 70 [(1, 429), (0, x0), (9, 0), (9, 0)] [] (Sf x y z) M 0 0 := by
  refine V.cm rfl (pk_0 (x := x0)) ?_
  refine r_aload_n dX11_keep_70 rfl (by decide) ?_
  refine r_getr (x := 430) dX11_keep_71 flX11_7 sf429 (by decide) (by decide) rfl rfl ?_
  refine r_iload_n dX11_keep_74 rfl ?_
  refine r_aload_n dX11_keep_75 rfl (by decide) ?_
  refine r_getr (x := 430) dX11_keep_76 flX11_7 sf429 (by decide) (by decide) rfl rfl ?_
  refine r_bipush dX11_keep_79 (by decide) (by decide) ?_
  refine r_iald dX11_keep_81 sf430 (by decide) (by omega) (by omega) (by decide) (by first | assumption | ((repeat (first | (apply rd_ne; · omega) | (apply rd_eq; · omega) | (apply rd_out; · omega) | (apply rd_in; · omega) | (apply rd_pk; · omega))); first | assumption | rfl)) ?_
  refine r_iast dX11_keep_82 sf430 (by decide) (by omega) (by omega) (by decide) rfl ?_
  refine V.cm rfl (pk_s 0 (by omega) (by omega) rfl) ?_
  refine r_aload_n dX11_keep_83 rfl (by decide) ?_
  refine r_getr (x := 430) dX11_keep_84 flX11_7 sf429 (by decide) (by decide) rfl rfl ?_
  refine r_iload_n dX11_keep_87 rfl ?_
  refine r_iconst dX11_keep_88 (by decide) ?_
  refine r_iadd dX11_keep_89 (w32_id (by omega)) ?_
  refine r_aload_n dX11_keep_90 rfl (by decide) ?_
  refine r_getr (x := 430) dX11_keep_91 flX11_7 sf429 (by decide) (by decide) rfl rfl ?_
  refine r_iconst dX11_keep_94 (by decide) ?_
  refine r_iald dX11_keep_95 sf430 (by decide) (by omega) (by omega) (by decide) (by first | assumption | ((repeat (first | (apply rd_ne; · omega) | (apply rd_eq; · omega) | (apply rd_out; · omega) | (apply rd_in; · omega) | (apply rd_pk; · omega))); first | assumption | rfl)) ?_
  refine r_iast dX11_keep_96 sf430 (by decide) (by omega) (by omega) (by decide) rfl ?_
  refine V.cm rfl (pk_s 1 (by omega) (by omega) rfl) ?_
  refine r_iconst dX11_keep_97 (by decide) ?_
  refine r_istore_n dX11_keep_98 rfl (by decide) st2 ?_
  refine r_iload_n dX11_keep_99 rfl ?_
  refine r_iconst dX11_keep_100 (by decide) ?_
  refine r_icmp_ge (tgt := 129) dX11_keep_101 (by decide) (fun h101 => by exfalso; omega) (fun h101 => ?_)
  refine r_aload_n dX11_keep_104 rfl (by decide) ?_
  refine r_getr (x := 430) dX11_keep_105 flX11_7 sf429 (by decide) (by decide) rfl rfl ?_
  refine r_iload_n dX11_keep_108 rfl ?_
  refine r_iconst dX11_keep_109 (by decide) ?_
  refine r_iadd dX11_keep_110 (w32_id (by omega)) ?_
  refine r_iload_n dX11_keep_111 rfl ?_
  refine r_iadd dX11_keep_112 (w32_id (by omega)) ?_
  refine r_aload_n dX11_keep_113 rfl (by decide) ?_
  refine r_getr (x := 430) dX11_keep_114 flX11_7 sf429 (by decide) (by decide) rfl rfl ?_
  refine r_bipush dX11_keep_117 (by decide) (by decide) ?_
  refine r_iload_n dX11_keep_119 rfl ?_
  refine r_iadd dX11_keep_120 (w32_id (by omega)) ?_
  refine r_iald dX11_keep_121 sf430 (by decide) (by omega) (by omega) (by decide) (by first | assumption | ((repeat (first | (apply rd_ne; · omega) | (apply rd_eq; · omega) | (apply rd_out; · omega) | (apply rd_in; · omega) | (apply rd_pk; · omega))); first | assumption | rfl)) ?_
  refine r_iast dX11_keep_122 sf430 (by decide) (by omega) (by omega) (by decide) rfl ?_
  refine V.cm rfl (pk_s (2 + 0) (by omega) (by omega) (row_1 (by omega) rfl)) ?_
  refine r_iinc dX11_keep_123 rfl rfl (by decide) (w32_id (by omega)) st2 ?_
  refine r_goto (tgt := 99) dX11_keep_126 (by decide) ?_
  refine r_iload_n dX11_keep_99 rfl ?_
  refine r_iconst dX11_keep_100 (by decide) ?_
  refine r_icmp_ge (tgt := 129) dX11_keep_101 (by decide) (fun h101 => by exfalso; omega) (fun h101 => ?_)
  refine r_aload_n dX11_keep_104 rfl (by decide) ?_
  refine r_getr (x := 430) dX11_keep_105 flX11_7 sf429 (by decide) (by decide) rfl rfl ?_
  refine r_iload_n dX11_keep_108 rfl ?_
  refine r_iconst dX11_keep_109 (by decide) ?_
  refine r_iadd dX11_keep_110 (w32_id (by omega)) ?_
  refine r_iload_n dX11_keep_111 rfl ?_
  refine r_iadd dX11_keep_112 (w32_id (by omega)) ?_
  refine r_aload_n dX11_keep_113 rfl (by decide) ?_
  refine r_getr (x := 430) dX11_keep_114 flX11_7 sf429 (by decide) (by decide) rfl rfl ?_
  refine r_bipush dX11_keep_117 (by decide) (by decide) ?_
  refine r_iload_n dX11_keep_119 rfl ?_
  refine r_iadd dX11_keep_120 (w32_id (by omega)) ?_
  refine r_iald dX11_keep_121 sf430 (by decide) (by omega) (by omega) (by decide) (by first | assumption | ((repeat (first | (apply rd_ne; · omega) | (apply rd_eq; · omega) | (apply rd_out; · omega) | (apply rd_in; · omega) | (apply rd_pk; · omega))); first | assumption | rfl)) ?_
  refine r_iast dX11_keep_122 sf430 (by decide) (by omega) (by omega) (by decide) rfl ?_
  refine V.cm rfl (pk_s (2 + 1) (by omega) (by omega) (row_1 (by omega) rfl)) ?_
  refine r_iinc dX11_keep_123 rfl rfl (by decide) (w32_id (by omega)) st2 ?_
  refine r_goto (tgt := 99) dX11_keep_126 (by decide) ?_
  refine r_iload_n dX11_keep_99 rfl ?_
  refine r_iconst dX11_keep_100 (by decide) ?_
  refine r_icmp_ge (tgt := 129) dX11_keep_101 (by decide) (fun h101 => by exfalso; omega) (fun h101 => ?_)
  refine r_aload_n dX11_keep_104 rfl (by decide) ?_
  refine r_getr (x := 430) dX11_keep_105 flX11_7 sf429 (by decide) (by decide) rfl rfl ?_
  refine r_iload_n dX11_keep_108 rfl ?_
  refine r_iconst dX11_keep_109 (by decide) ?_
  refine r_iadd dX11_keep_110 (w32_id (by omega)) ?_
  refine r_iload_n dX11_keep_111 rfl ?_
  refine r_iadd dX11_keep_112 (w32_id (by omega)) ?_
  refine r_aload_n dX11_keep_113 rfl (by decide) ?_
  refine r_getr (x := 430) dX11_keep_114 flX11_7 sf429 (by decide) (by decide) rfl rfl ?_
  refine r_bipush dX11_keep_117 (by decide) (by decide) ?_
  refine r_iload_n dX11_keep_119 rfl ?_
  refine r_iadd dX11_keep_120 (w32_id (by omega)) ?_
  refine r_iald dX11_keep_121 sf430 (by decide) (by omega) (by omega) (by decide) (by first | assumption | ((repeat (first | (apply rd_ne; · omega) | (apply rd_eq; · omega) | (apply rd_out; · omega) | (apply rd_in; · omega) | (apply rd_pk; · omega))); first | assumption | rfl)) ?_
  refine r_iast dX11_keep_122 sf430 (by decide) (by omega) (by omega) (by decide) rfl ?_
  refine V.cm rfl (pk_s (2 + 2) (by omega) (by omega) (row_1 (by omega) rfl)) ?_
  refine r_iinc dX11_keep_123 rfl rfl (by decide) (w32_id (by omega)) st2 ?_
  refine r_goto (tgt := 99) dX11_keep_126 (by decide) ?_
  refine r_iload_n dX11_keep_99 rfl ?_
  refine r_iconst dX11_keep_100 (by decide) ?_
  refine r_icmp_ge (tgt := 129) dX11_keep_101 (by decide) (fun h101 => ?_) (fun h101 => by exfalso; omega)
  refine r_iconst dX11_keep_129 (by decide) ?_
  refine r_istore_n dX11_keep_130 rfl (by decide) st2 ?_
  exact k_131 hx hu h3 12 0 (by omega)
/-- ahead of a STEP: thirty are kept, the eldest gives way -/
def kpA (M : Me) : Me := if M 430 3 = 30 then up (pk (up (cpy M 430 256 430 192 1856) 430 3 29) 2048 64) 430 3 30 else up (pk M (192 + 64 * M 430 3) 64) 430 3 (M 430 3 + 1)
theorem k_13 {x y z : Int} {M : Me} (h9 : M 430 3 = 30) : ∀ (m i : Nat), m + i = 1856 → V kX11_keep 0 0 1 none (Ex none (Sf x y z) (kpA M)) 13 [(1, 429), (0, (i : Int)), (9, 0), (9, 0)] [] (Sf x y z) (cpy M 430 256 430 192 (i : Int)) 0 0 := by
  intro m
  induction m with
  | zero =>
    intro i hi
    obtain rfl : i = 1856 := by omega
    refine r_iload_n dX11_keep_13 rfl ?_
    refine r_sipush dX11_keep_14 (by decide) (by decide) ?_
    refine r_icmp_ge (tgt := 46) dX11_keep_17 (by decide) (fun h17 => ?_) (fun h17 => by exfalso; omega)
    refine r_aload_n dX11_keep_46 rfl (by decide) ?_
    refine r_getr (x := 430) dX11_keep_47 flX11_7 sf429 (by decide) (by decide) rfl rfl ?_
    refine r_iconst dX11_keep_50 (by decide) ?_
    refine r_dup2 dX11_keep_51 (by decide) (by decide) ?_
    refine r_iald dX11_keep_52 sf430 (by decide) (by omega) (by omega) (by decide) (by first | assumption | ((repeat (first | (apply rd_ne; · omega) | (apply rd_eq; · omega) | (apply rd_out; · omega) | (apply rd_in; · omega))); first | assumption | rfl)) ?_
    refine r_iconst dX11_keep_53 (by decide) ?_
    refine r_isub dX11_keep_54 (w32_id (by omega)) ?_
    refine r_iast dX11_keep_55 sf430 (by decide) (by omega) (by omega) (by decide) rfl ?_
    refine r_sipush dX11_keep_56 (by decide) (by decide) ?_
    refine r_bipush dX11_keep_59 (by decide) (by decide) ?_
    refine r_aload_n dX11_keep_61 rfl (by decide) ?_
    refine r_getr (x := 430) dX11_keep_62 flX11_7 sf429 (by decide) (by decide) rfl rfl ?_
    refine r_iconst dX11_keep_65 (by decide) ?_
    refine r_iald dX11_keep_66 sf430 (by decide) (by omega) (by omega) (by decide) (by first | assumption | ((repeat (first | (apply rd_ne; · omega) | (apply rd_eq; · omega) | (apply rd_out; · omega) | (apply rd_in; · omega))); first | assumption | rfl)) ?_
    refine r_imul dX11_keep_67 (w32_id (by omega)) ?_
    refine r_iadd dX11_keep_68 (w32_id (by omega)) ?_
    refine r_istore_n dX11_keep_69 rfl (by decide) st1 ?_
    exact V.mono (k_70 (u := 29) (by omega) (by omega) (up_eq (by omega))) (fun v9 S9 M9 h => ⟨h.1, h.2.1, by rw [h.2.2]; unfold kpA; rw [if_pos h9]; rfl⟩)
  | succ m ih =>
    intro i hi
    refine r_iload_n dX11_keep_13 rfl ?_
    refine r_sipush dX11_keep_14 (by decide) (by decide) ?_
    refine r_icmp_ge (tgt := 46) dX11_keep_17 (by decide) (fun h17 => by exfalso; omega) (fun h17 => ?_)
    refine r_aload_n dX11_keep_20 rfl (by decide) ?_
    refine r_getr (x := 430) dX11_keep_21 flX11_7 sf429 (by decide) (by decide) rfl rfl ?_
    refine r_sipush dX11_keep_24 (by decide) (by decide) ?_
    refine r_iload_n dX11_keep_27 rfl ?_
    refine r_iadd dX11_keep_28 (w32_id (by omega)) ?_
    refine r_aload_n dX11_keep_29 rfl (by decide) ?_
    refine r_getr (x := 430) dX11_keep_30 flX11_7 sf429 (by decide) (by decide) rfl rfl ?_
    refine r_sipush dX11_keep_33 (by decide) (by decide) ?_
    refine r_iload_n dX11_keep_36 rfl ?_
    refine r_iadd dX11_keep_37 (w32_id (by omega)) ?_
    refine r_iald dX11_keep_38 sf430 (by decide) (by omega) (by omega) (by decide) (by first | assumption | ((repeat (first | (apply rd_ne; · omega) | (apply rd_eq; · omega) | (apply rd_out; · omega) | (apply rd_in; · omega))); first | assumption | rfl)) ?_
    refine r_iast dX11_keep_39 sf430 (by decide) (by omega) (by omega) (by decide) rfl ?_
    refine r_iinc dX11_keep_40 rfl rfl (by decide) (w32_id (by omega)) st1 ?_
    refine r_goto (tgt := 13) dX11_keep_43 (by decide) ?_
    exact V.cm rfl (cpy_s (by decide) (by omega) (by omega) rfl) (ih (i + 1) (by omega))
theorem m_keep {x y z : Int} {M : Me} (h3 : 0 ≤ M 430 3 ∧ M 430 3 ≤ 30) : Con kX11_keep 1 0 0 [(1, 429)] (Sf x y z) M (Ex none (Sf x y z) (kpA M)) := by
  refine Con.ofV (al := [(1, 429), (9, 0), (9, 0), (9, 0)]) 3 (by decide) (Nat.le_of_ble_eq_true rfl) rfl ?_
  refine r_aload_n dX11_keep_0 rfl (by decide) ?_
  refine r_getr (x := 430) dX11_keep_1 flX11_7 sf429 (by decide) (by decide) rfl rfl ?_
  refine r_iconst dX11_keep_4 (by decide) ?_
  refine r_iald dX11_keep_5 sf430 (by decide) (by omega) (by omega) (by decide) (by first | assumption | ((repeat (first | (apply rd_ne; · omega) | (apply rd_eq; · omega) | (apply rd_out; · omega) | (apply rd_in; · omega))); first | assumption | rfl)) ?_
  refine r_bipush dX11_keep_6 (by decide) (by decide) ?_
  refine r_icmp_ne (tgt := 56) dX11_keep_8 (by decide) (fun h8 => ?_) (fun h8 => ?_)
  · refine r_sipush dX11_keep_56 (by decide) (by decide) ?_
    refine r_bipush dX11_keep_59 (by decide) (by decide) ?_
    refine r_aload_n dX11_keep_61 rfl (by decide) ?_
    refine r_getr (x := 430) dX11_keep_62 flX11_7 sf429 (by decide) (by decide) rfl rfl ?_
    refine r_iconst dX11_keep_65 (by decide) ?_
    refine r_iald dX11_keep_66 sf430 (by decide) (by omega) (by omega) (by decide) (by first | assumption | ((repeat (first | (apply rd_ne; · omega) | (apply rd_eq; · omega) | (apply rd_out; · omega) | (apply rd_in; · omega))); first | assumption | rfl)) ?_
    refine r_imul dX11_keep_67 (w32_id (by omega)) ?_
    refine r_iadd dX11_keep_68 (w32_id (by omega)) ?_
    refine r_istore_n dX11_keep_69 rfl (by decide) st1 ?_
    exact V.mono (k_70 (u := M 430 3) rfl (by omega) rfl) (fun v9 S9 M9 h => ⟨h.1, h.2.1, by rw [h.2.2]; unfold kpA; rw [if_neg (by assumption)]⟩)
  · refine r_iconst dX11_keep_11 (by decide) ?_
    refine r_istore_n dX11_keep_12 rfl (by decide) st1 ?_
    exact V.cm rfl cpy_0.symm (k_13 (by assumption) 1856 0 (by omega))
