theorem l_whl1 {x y z : Int} {M : Me} {n : Nat} (hn : M 227 0 = (n : Int)) (hn6 : n ≤ 6) (hw : ∀ i : Int, 0 ≤ i → i < n → 1 ≤ M 228 i ∧ M 228 i ≤ 999) {t c : Int} {Q : Option AV → Sh → Me → Prop} (hQ : V kX5_wholeLaughs 0 0 0 none Q 33 [(1, 12), (1, 227), (0, t), (0, c), (0, (smW (fun i : Int => M 228 i) n)), (9, 0), (9, 0), (9, 0), (9, 0), (9, 0)] [] (Sf x y z) M 0 0) : ∀ (m i : Nat), m + i = n → V kX5_wholeLaughs 0 0 0 none Q 6 [(1, 12), (1, 227), (0, t), (0, c), (0, smW (fun i : Int => M 228 i) i), (0, (i : Int)), (9, 0), (9, 0), (9, 0), (9, 0)] [] (Sf x y z) M 0 0 := by
  intro m
  induction m with
  | zero =>
    intro i hi
    obtain rfl : i = n := by omega
    refine r_iload dX5_wholeLaughs_6 rfl ?_
    refine r_aload_n dX5_wholeLaughs_8 rfl (by decide) ?_
    refine r_gi 0 dX5_wholeLaughs_9 flX5_72 sf227 (by decide) (by decide) rfl rfl hn ?_
    refine r_icmp_ge (tgt := 33) dX5_wholeLaughs_12 (by decide) (fun h12 => ?_) (fun h12 => by exfalso; omega)
    exact wk5 hQ
  | succ m ih =>
    intro i hi
    have hb := smW_b (w := (fun i : Int => M 228 i)) (n := n) hw i (by omega)
    have h1 := hw i (by omega) (by omega)
    refine r_iload dX5_wholeLaughs_6 rfl ?_
    refine r_aload_n dX5_wholeLaughs_8 rfl (by decide) ?_
    refine r_gi 0 dX5_wholeLaughs_9 flX5_72 sf227 (by decide) (by decide) rfl rfl hn ?_
    refine r_icmp_ge (tgt := 33) dX5_wholeLaughs_12 (by decide) (fun h12 => by exfalso; omega) (fun h12 => ?_)
    refine r_iload dX5_wholeLaughs_15 rfl ?_
    refine r_aload_n dX5_wholeLaughs_17 rfl (by decide) ?_
    refine r_getr (x := 228) dX5_wholeLaughs_18 flX5_77 sf227 (by decide) (by decide) rfl rfl ?_
    refine r_iload dX5_wholeLaughs_21 rfl ?_
    refine r_iald dX5_wholeLaughs_23 sf228 (by decide) (by omega) (by omega) (by decide) rfl ?_
    refine r_iadd dX5_wholeLaughs_24 (w32_id (by omega)) ?_
    refine r_istore dX5_wholeLaughs_25 rfl (by decide) st4 ?_
    refine r_iinc dX5_wholeLaughs_27 rfl rfl (by decide) (w32_id (by omega)) st5 ?_
    refine r_goto (tgt := 6) dX5_wholeLaughs_30 (by decide) ?_
    exact ih (i + 1) (by omega)
theorem l_whl2 {x y z : Int} {M : Me} {n : Nat} (hn : M 227 0 = (n : Int)) (hn6 : n ≤ 6) (hw : ∀ i : Int, 0 ≤ i → i < n → 1 ≤ M 228 i ∧ M 228 i ≤ 999) {t c g : Int} (ht : 0 ≤ t ∧ t ≤ 99) (hc : 0 ≤ c ∧ c < n) (hg : 1 ≤ g ∧ g ≤ 5994) {Q : Option AV → Sh → Me → Prop} (hQ : V kX5_wholeLaughs 0 0 0 none Q 138 [(1, 12), (1, 227), (0, t), (0, c), (0, g), (0, (lfW (fun i : Int => M 228 i) t g n)), (0, (ctW (rmW (fun i : Int => M 228 i) t g) c n)), (0, rmW (fun i : Int => M 228 i) t g c), (9, 0), (9, 0)] [] (Sf x y z) M 0 0) : ∀ (m i : Nat), m + i = n → V kX5_wholeLaughs 0 0 0 none Q 62 [(1, 12), (1, 227), (0, t), (0, c), (0, g), (0, (lfW (fun i : Int => M 228 i) t g i)), (0, (ctW (rmW (fun i : Int => M 228 i) t g) c i)), (0, rmW (fun i : Int => M 228 i) t g c), (0, (i : Int)), (9, 0)] [] (Sf x y z) M 0 0 := by
  intro m
  induction m with
  | zero =>
    intro i hi
    obtain rfl : i = n := by omega
    refine r_iload dX5_wholeLaughs_62 rfl ?_
    refine r_aload_n dX5_wholeLaughs_64 rfl (by decide) ?_
    refine r_gi 0 dX5_wholeLaughs_65 flX5_72 sf227 (by decide) (by decide) rfl rfl hn ?_
    refine r_icmp_ge (tgt := 138) dX5_wholeLaughs_68 (by decide) (fun h68 => ?_) (fun h68 => by exfalso; omega)
    exact wk8 hQ
  | succ m ih =>
    intro i hi
    have hb := lfW_b (w := (fun i : Int => M 228 i)) (t := t) (g := g) (n := n) hw ht hg.1 i (by omega)
    have hcb := ctW_b (r := rmW (fun i : Int => M 228 i) t g) (i := c) i
    have h1 := hw i (by omega) (by omega)
    have hm := mb2 (a := M 228 i) (b := t) (by omega) (by omega)
    rw [Int.mul_comm] at hm
    have hdv : 0 ≤ t * M 228 i / g ∧ t * M 228 i / g ≤ t * M 228 i := ⟨Int.ediv_nonneg hm.1 (by omega), Int.ediv_le_self _ hm.1⟩
    have hrm : t * M 228 (i : Int) % g = rmW (fun i : Int => M 228 i) t g i := rfl
    have ih9 := ih (i + 1) (by omega)
    rw [show lfW (fun i : Int => M 228 i) t g (i + 1) = (lfW (fun i : Int => M 228 i) t g i) - t * M 228 i / g from rfl] at ih9
    have ect := ctW_t (r := rmW (fun i : Int => M 228 i) t g) (i := c) (j := i)
    have ecf := ctW_f (r := rmW (fun i : Int => M 228 i) t g) (i := c) (j := i)
    generalize ctW (rmW (fun i : Int => M 228 i) t g) c (i + 1) = C2 at ih9 ect ecf
    refine r_iload dX5_wholeLaughs_62 rfl ?_
    refine r_aload_n dX5_wholeLaughs_64 rfl (by decide) ?_
    refine r_gi 0 dX5_wholeLaughs_65 flX5_72 sf227 (by decide) (by decide) rfl rfl hn ?_
    refine r_icmp_ge (tgt := 138) dX5_wholeLaughs_68 (by decide) (fun h68 => by exfalso; omega) (fun h68 => ?_)
    refine r_iload dX5_wholeLaughs_71 rfl ?_
    refine r_iload_n dX5_wholeLaughs_73 rfl ?_
    refine r_aload_n dX5_wholeLaughs_74 rfl (by decide) ?_
    refine r_getr (x := 228) dX5_wholeLaughs_75 flX5_77 sf227 (by decide) (by decide) rfl rfl ?_
    refine r_iload dX5_wholeLaughs_78 rfl ?_
    refine r_iald dX5_wholeLaughs_80 sf228 (by decide) (by omega) (by omega) (by decide) rfl ?_
    refine r_imul dX5_wholeLaughs_81 (w32_id (by omega)) ?_
    refine r_iload dX5_wholeLaughs_82 rfl ?_
    refine r_idiv dX5_wholeLaughs_84 (by omega) (dvn (by omega) (by omega) (by omega)) ?_
    refine r_isub dX5_wholeLaughs_85 (w32_id (by omega)) ?_
    refine r_istore dX5_wholeLaughs_86 rfl (by decide) st5 ?_
    refine r_iload_n dX5_wholeLaughs_88 rfl ?_
    refine r_aload_n dX5_wholeLaughs_89 rfl (by decide) ?_
    refine r_getr (x := 228) dX5_wholeLaughs_90 flX5_77 sf227 (by decide) (by decide) rfl rfl ?_
    refine r_iload dX5_wholeLaughs_93 rfl ?_
    refine r_iald dX5_wholeLaughs_95 sf228 (by decide) (by omega) (by omega) (by decide) rfl ?_
    refine r_imul dX5_wholeLaughs_96 (w32_id (by omega)) ?_
    refine r_iload dX5_wholeLaughs_97 rfl ?_
    refine r_irem dX5_wholeLaughs_99 (by omega) ((rmn (by omega)).trans hrm) ?_
    refine r_istore dX5_wholeLaughs_100 rfl (by decide) st9 ?_
    refine r_iload dX5_wholeLaughs_102 rfl ?_
    refine r_iload dX5_wholeLaughs_104 rfl ?_
    refine r_iload dX5_wholeLaughs_106 rfl ?_
    refine r_icmp_gt (tgt := 124) dX5_wholeLaughs_108 (by decide) (fun h108 => ?_) (fun h108 => ?_)
    · refine r_iconst dX5_wholeLaughs_124 (by decide) ?_
      refine r_goto (tgt := 129) dX5_wholeLaughs_125 (by decide) ?_
      refine r_iadd dX5_wholeLaughs_129 (w32_id (by omega)) ?_
      refine r_istore dX5_wholeLaughs_130 rfl (by decide) st6 ?_
      refine r_iinc dX5_wholeLaughs_132 rfl rfl (by decide) (w32_id (by omega)) st8 ?_
      refine r_goto (tgt := 62) dX5_wholeLaughs_135 (by decide) ?_
      refine wk9 ?_
      first | (rw [ect (by omega)] at ih9; exact ih9) | (rw [ecf (by omega)] at ih9; exact ih9)
    · refine r_iload dX5_wholeLaughs_111 rfl ?_
      refine r_iload dX5_wholeLaughs_113 rfl ?_
      refine r_icmp_ne (tgt := 128) dX5_wholeLaughs_115 (by decide) (fun h115 => ?_) (fun h115 => ?_)
      · refine r_iconst dX5_wholeLaughs_128 (by decide) ?_
        refine r_iadd dX5_wholeLaughs_129 (w32_id (by omega)) ?_
        refine r_istore dX5_wholeLaughs_130 rfl (by decide) st6 ?_
        refine r_iinc dX5_wholeLaughs_132 rfl rfl (by decide) (w32_id (by omega)) st8 ?_
        refine r_goto (tgt := 62) dX5_wholeLaughs_135 (by decide) ?_
        refine wk9 ?_
        first | (rw [ect (by omega)] at ih9; exact ih9) | (rw [ecf (by omega)] at ih9; exact ih9)
      · refine r_iload dX5_wholeLaughs_118 rfl ?_
        refine r_iload_n dX5_wholeLaughs_120 rfl ?_
        refine r_icmp_ge (tgt := 128) dX5_wholeLaughs_121 (by decide) (fun h121 => ?_) (fun h121 => ?_)
        · refine r_iconst dX5_wholeLaughs_128 (by decide) ?_
          refine r_iadd dX5_wholeLaughs_129 (w32_id (by omega)) ?_
          refine r_istore dX5_wholeLaughs_130 rfl (by decide) st6 ?_
          refine r_iinc dX5_wholeLaughs_132 rfl rfl (by decide) (w32_id (by omega)) st8 ?_
          refine r_goto (tgt := 62) dX5_wholeLaughs_135 (by decide) ?_
          refine wk9 ?_
          first | (rw [ect (by omega)] at ih9; exact ih9) | (rw [ecf (by omega)] at ih9; exact ih9)
        · refine r_iconst dX5_wholeLaughs_124 (by decide) ?_
          refine r_goto (tgt := 129) dX5_wholeLaughs_125 (by decide) ?_
          refine r_iadd dX5_wholeLaughs_129 (w32_id (by omega)) ?_
          refine r_istore dX5_wholeLaughs_130 rfl (by decide) st6 ?_
          refine r_iinc dX5_wholeLaughs_132 rfl rfl (by decide) (w32_id (by omega)) st8 ?_
          refine r_goto (tgt := 62) dX5_wholeLaughs_135 (by decide) ?_
          refine wk9 ?_
          first | (rw [ect (by omega)] at ih9; exact ih9) | (rw [ecf (by omega)] at ih9; exact ih9)
theorem c_wholeLaughs {x y z : Int} {M : Me} {n : Nat} (hn : M 227 0 = (n : Int)) (hn6 : n ≤ 6) (hw : ∀ i : Int, 0 ≤ i → i < n → 1 ≤ M 228 i ∧ M 228 i ≤ 999) {t c : Int} (ht : 0 ≤ t ∧ t ≤ 99) (hc : 0 ≤ c ∧ c < n) : Con kX5_wholeLaughs 0 0 0 [(1, 12), (1, 227), (0, t), (0, c)] (Sf x y z) M (Ex (some (0, t * M 228 c / (smW (fun i : Int => M 228 i) n) + zW (fun i : Int => M 228 i) t (smW (fun i : Int => M 228 i) n) n c)) (Sf x y z) M) := by
  refine Con.ofV (al := [(1, 12), (1, 227), (0, t), (0, c), (9, 0), (9, 0), (9, 0), (9, 0), (9, 0), (9, 0)]) 6 (by decide) (Nat.le_of_ble_eq_true rfl) rfl ?_
  have hsb := smW_b (w := (fun i : Int => M 228 i)) (n := n) hw n (Nat.le_refl n)
  have hgb : 1 ≤ (smW (fun i : Int => M 228 i) n) ∧ (smW (fun i : Int => M 228 i) n) ≤ 5994 := by omega
  have h1 := hw c hc.1 hc.2
  have hm := mb2 (a := M 228 c) (b := t) (by omega) (by omega)
  rw [Int.mul_comm] at hm
  have hdv : 0 ≤ t * M 228 c / (smW (fun i : Int => M 228 i) n) ∧ t * M 228 c / (smW (fun i : Int => M 228 i) n) ≤ t * M 228 c := ⟨Int.ediv_nonneg hm.1 (by omega), Int.ediv_le_self _ hm.1⟩
  refine r_iconst dX5_wholeLaughs_0 (by decide) ?_
  refine r_istore dX5_wholeLaughs_1 rfl (by decide) st4 ?_
  refine r_iconst dX5_wholeLaughs_3 (by decide) ?_
  refine r_istore dX5_wholeLaughs_4 rfl (by decide) st5 ?_
  refine l_whl1 hn hn6 hw ?_ n 0 (by omega)
  refine r_iload dX5_wholeLaughs_33 rfl ?_
  refine r_if_gt (tgt := 40) dX5_wholeLaughs_35 (by decide) (fun h35 => ?_) (fun h35 => by exfalso; omega)
  refine r_iload_n dX5_wholeLaughs_40 rfl ?_
  refine r_istore dX5_wholeLaughs_41 rfl (by decide) st5 ?_
  refine r_iconst dX5_wholeLaughs_43 (by decide) ?_
  refine r_istore dX5_wholeLaughs_44 rfl (by decide) st6 ?_
  refine r_iload_n dX5_wholeLaughs_46 rfl ?_
  refine r_aload_n dX5_wholeLaughs_47 rfl (by decide) ?_
  refine r_getr (x := 228) dX5_wholeLaughs_48 flX5_77 sf227 (by decide) (by decide) rfl rfl ?_
  refine r_iload_n dX5_wholeLaughs_51 rfl ?_
  refine r_iald dX5_wholeLaughs_52 sf228 (by decide) (by omega) (by omega) (by decide) rfl ?_
  refine r_imul dX5_wholeLaughs_53 (w32_id (by omega)) ?_
  refine r_iload dX5_wholeLaughs_54 rfl ?_
  refine r_irem dX5_wholeLaughs_56 (by omega) (rmn (by omega)) ?_
  refine r_istore dX5_wholeLaughs_57 rfl (by decide) st7 ?_
  refine r_iconst dX5_wholeLaughs_59 (by decide) ?_
  refine r_istore dX5_wholeLaughs_60 rfl (by decide) st8 ?_
  refine V.al (by rw [show t * M 228 c % (smW (fun i : Int => M 228 i) n) = rmW (fun i : Int => M 228 i) t (smW (fun i : Int => M 228 i) n) c from rfl]; rfl) (l_whl2 hn hn6 hw ht hc hgb ?_ n 0 (by omega))
  refine r_iload_n dX5_wholeLaughs_138 rfl ?_
  refine r_aload_n dX5_wholeLaughs_139 rfl (by decide) ?_
  refine r_getr (x := 228) dX5_wholeLaughs_140 flX5_77 sf227 (by decide) (by decide) rfl rfl ?_
  refine r_iload_n dX5_wholeLaughs_143 rfl ?_
  refine r_iald dX5_wholeLaughs_144 sf228 (by decide) (by omega) (by omega) (by decide) rfl ?_
  refine r_imul dX5_wholeLaughs_145 (w32_id (by omega)) ?_
  refine r_iload dX5_wholeLaughs_146 rfl ?_
  refine r_idiv dX5_wholeLaughs_148 (by omega) (dvn (by omega) (by omega) (by omega)) ?_
  refine r_iload dX5_wholeLaughs_149 rfl ?_
  refine r_iload dX5_wholeLaughs_151 rfl ?_
  refine r_icmp_ge (tgt := 160) dX5_wholeLaughs_153 (by decide) (fun h153 => ?_) (fun h153 => ?_)
  · refine r_iconst dX5_wholeLaughs_160 (by decide) ?_
    refine r_iadd dX5_wholeLaughs_161 (w32_id (by omega)) ?_
    refine r_iret dX5_wholeLaughs_162 rfl ?_
    first | exact ⟨by unfold zW; rw [if_pos (by omega)], rfl, rfl⟩ | exact ⟨by unfold zW; rw [if_neg (by omega)], rfl, rfl⟩
  · refine r_iconst dX5_wholeLaughs_156 (by decide) ?_
    refine r_goto (tgt := 161) dX5_wholeLaughs_157 (by decide) ?_
    refine r_iadd dX5_wholeLaughs_161 (w32_id (by omega)) ?_
    refine r_iret dX5_wholeLaughs_162 rfl ?_
    first | exact ⟨by unfold zW; rw [if_pos (by omega)], rfl, rfl⟩ | exact ⟨by unfold zW; rw [if_neg (by omega)], rfl, rfl⟩
