-- ===== PART A: goes FIRST, ahead of the names: the tables' words, and 'selects' of the private methods out of them =====
/-- a private method of a class that the tables say can be made, by its rows of tables_1 -/
def lw_okq (q : MethodName × Nat) : Prop := (q.1.cls ≠ "java/lang/invoke/MethodHandle" ∧ q.1.cls ≠ "java/lang/invoke/VarHandle") ∧ Cond.instantiable q.1.cls q.2 ∈ tables_1 ∧ Cond.privateMethod q.1 ∈ tables_1 ∧ Cond.instanceMethod q.1 ∈ tables_1
theorem lw_p0 : lw_okq (⟨"IronedOut$Spa", "setAsTold", "(I)V"⟩, 21) := ⟨⟨by decide +kernel, by decide +kernel⟩, List.mem_of_getElem? (i := 185) (by decide +kernel), List.mem_of_getElem? (i := 441) (by decide +kernel), List.mem_of_getElem? (i := 442) (by decide +kernel)⟩
theorem lw_p1 : lw_okq (⟨"IronedOut$Reader", "go", "()V"⟩, 10) := ⟨⟨by decide +kernel, by decide +kernel⟩, List.mem_of_getElem? (i := 31) (by decide +kernel), List.mem_of_getElem? (i := 497) (by decide +kernel), List.mem_of_getElem? (i := 498) (by decide +kernel)⟩
theorem lw_p2 : lw_okq (⟨"IronedOut$Reader", "goNumber", "()V"⟩, 10) := ⟨⟨by decide +kernel, by decide +kernel⟩, List.mem_of_getElem? (i := 31) (by decide +kernel), List.mem_of_getElem? (i := 504) (by decide +kernel), List.mem_of_getElem? (i := 505) (by decide +kernel)⟩
theorem lw_p3 : lw_okq (⟨"IronedOut$Reader", "goWord", "()V"⟩, 10) := ⟨⟨by decide +kernel, by decide +kernel⟩, List.mem_of_getElem? (i := 31) (by decide +kernel), List.mem_of_getElem? (i := 514) (by decide +kernel), List.mem_of_getElem? (i := 515) (by decide +kernel)⟩
theorem lw_p4 : lw_okq (⟨"IronedOut$Reader", "goSign", "()V"⟩, 10) := ⟨⟨by decide +kernel, by decide +kernel⟩, List.mem_of_getElem? (i := 31) (by decide +kernel), List.mem_of_getElem? (i := 567) (by decide +kernel), List.mem_of_getElem? (i := 568) (by decide +kernel)⟩
theorem lw_p5 : lw_okq (⟨"IronedOut$Reader", "readClause", "()Z"⟩, 10) := ⟨⟨by decide +kernel, by decide +kernel⟩, List.mem_of_getElem? (i := 31) (by decide +kernel), List.mem_of_getElem? (i := 571) (by decide +kernel), List.mem_of_getElem? (i := 572) (by decide +kernel)⟩
theorem lw_p6 : lw_okq (⟨"IronedOut$Reader", "refuse", "(I)Z"⟩, 10) := ⟨⟨by decide +kernel, by decide +kernel⟩, List.mem_of_getElem? (i := 31) (by decide +kernel), List.mem_of_getElem? (i := 575) (by decide +kernel), List.mem_of_getElem? (i := 576) (by decide +kernel)⟩
theorem lw_p7 : lw_okq (⟨"IronedOut$Reader", "readDeed", "(I)Z"⟩, 10) := ⟨⟨by decide +kernel, by decide +kernel⟩, List.mem_of_getElem? (i := 31) (by decide +kernel), List.mem_of_getElem? (i := 583) (by decide +kernel), List.mem_of_getElem? (i := 584) (by decide +kernel)⟩
theorem lw_p8 : lw_okq (⟨"IronedOut$Reader", "readNumber", "(III)Z"⟩, 10) := ⟨⟨by decide +kernel, by decide +kernel⟩, List.mem_of_getElem? (i := 31) (by decide +kernel), List.mem_of_getElem? (i := 587) (by decide +kernel), List.mem_of_getElem? (i := 588) (by decide +kernel)⟩
theorem lw_p9 : lw_okq (⟨"IronedOut$Reader", "pass", "(I)Z"⟩, 10) := ⟨⟨by decide +kernel, by decide +kernel⟩, List.mem_of_getElem? (i := 31) (by decide +kernel), List.mem_of_getElem? (i := 595) (by decide +kernel), List.mem_of_getElem? (i := 596) (by decide +kernel)⟩
theorem lw_p10 : lw_okq (⟨"IronedOut$Reader", "readSum", "(I)Z"⟩, 10) := ⟨⟨by decide +kernel, by decide +kernel⟩, List.mem_of_getElem? (i := 31) (by decide +kernel), List.mem_of_getElem? (i := 599) (by decide +kernel), List.mem_of_getElem? (i := 600) (by decide +kernel)⟩
theorem lw_p11 : lw_okq (⟨"IronedOut$Reader", "readProduct", "(I)Z"⟩, 10) := ⟨⟨by decide +kernel, by decide +kernel⟩, List.mem_of_getElem? (i := 31) (by decide +kernel), List.mem_of_getElem? (i := 603) (by decide +kernel), List.mem_of_getElem? (i := 604) (by decide +kernel)⟩
theorem lw_p12 : lw_okq (⟨"IronedOut$Reader", "readOne", "(I)Z"⟩, 10) := ⟨⟨by decide +kernel, by decide +kernel⟩, List.mem_of_getElem? (i := 31) (by decide +kernel), List.mem_of_getElem? (i := 607) (by decide +kernel), List.mem_of_getElem? (i := 608) (by decide +kernel)⟩
theorem lw_p13 : lw_okq (⟨"IronedOut$Reader", "readLeaf", "(I)Z"⟩, 10) := ⟨⟨by decide +kernel, by decide +kernel⟩, List.mem_of_getElem? (i := 31) (by decide +kernel), List.mem_of_getElem? (i := 611) (by decide +kernel), List.mem_of_getElem? (i := 612) (by decide +kernel)⟩
theorem lw_p14 : lw_okq (⟨"IronedOut$Reader", "readChoice", "(I)Z"⟩, 10) := ⟨⟨by decide +kernel, by decide +kernel⟩, List.mem_of_getElem? (i := 31) (by decide +kernel), List.mem_of_getElem? (i := 619) (by decide +kernel), List.mem_of_getElem? (i := 620) (by decide +kernel)⟩
theorem lw_p15 : lw_okq (⟨"IronedOut$Reader", "readEither", "(I)Z"⟩, 10) := ⟨⟨by decide +kernel, by decide +kernel⟩, List.mem_of_getElem? (i := 31) (by decide +kernel), List.mem_of_getElem? (i := 623) (by decide +kernel), List.mem_of_getElem? (i := 624) (by decide +kernel)⟩
def lw_privs_1 : List (MethodName × Nat) := [(⟨"IronedOut$Spa", "setAsTold", "(I)V"⟩, 21), (⟨"IronedOut$Reader", "go", "()V"⟩, 10), (⟨"IronedOut$Reader", "goNumber", "()V"⟩, 10), (⟨"IronedOut$Reader", "goWord", "()V"⟩, 10), (⟨"IronedOut$Reader", "goSign", "()V"⟩, 10), (⟨"IronedOut$Reader", "readClause", "()Z"⟩, 10), (⟨"IronedOut$Reader", "refuse", "(I)Z"⟩, 10), (⟨"IronedOut$Reader", "readDeed", "(I)Z"⟩, 10), (⟨"IronedOut$Reader", "readNumber", "(III)Z"⟩, 10), (⟨"IronedOut$Reader", "pass", "(I)Z"⟩, 10), (⟨"IronedOut$Reader", "readSum", "(I)Z"⟩, 10), (⟨"IronedOut$Reader", "readProduct", "(I)Z"⟩, 10), (⟨"IronedOut$Reader", "readOne", "(I)Z"⟩, 10), (⟨"IronedOut$Reader", "readLeaf", "(I)Z"⟩, 10), (⟨"IronedOut$Reader", "readChoice", "(I)Z"⟩, 10), (⟨"IronedOut$Reader", "readEither", "(I)Z"⟩, 10)]
theorem lw_r1 : ∀ q ∈ lw_privs_1, lw_okq q := List.forall_mem_cons.mpr ⟨lw_p0, List.forall_mem_cons.mpr ⟨lw_p1, List.forall_mem_cons.mpr ⟨lw_p2, List.forall_mem_cons.mpr ⟨lw_p3, List.forall_mem_cons.mpr ⟨lw_p4, List.forall_mem_cons.mpr ⟨lw_p5, List.forall_mem_cons.mpr ⟨lw_p6, List.forall_mem_cons.mpr ⟨lw_p7, List.forall_mem_cons.mpr ⟨lw_p8, List.forall_mem_cons.mpr ⟨lw_p9, List.forall_mem_cons.mpr ⟨lw_p10, List.forall_mem_cons.mpr ⟨lw_p11, List.forall_mem_cons.mpr ⟨lw_p12, List.forall_mem_cons.mpr ⟨lw_p13, List.forall_mem_cons.mpr ⟨lw_p14, List.forall_mem_cons.mpr ⟨lw_p15, fun _ h => absurd h List.not_mem_nil⟩⟩⟩⟩⟩⟩⟩⟩⟩⟩⟩⟩⟩⟩⟩⟩
theorem lw_p16 : lw_okq (⟨"IronedOut$Reader", "readBoth", "(I)Z"⟩, 10) := ⟨⟨by decide +kernel, by decide +kernel⟩, List.mem_of_getElem? (i := 31) (by decide +kernel), List.mem_of_getElem? (i := 627) (by decide +kernel), List.mem_of_getElem? (i := 628) (by decide +kernel)⟩
theorem lw_p17 : lw_okq (⟨"IronedOut$Reader", "readAsk", "(I)Z"⟩, 10) := ⟨⟨by decide +kernel, by decide +kernel⟩, List.mem_of_getElem? (i := 31) (by decide +kernel), List.mem_of_getElem? (i := 631) (by decide +kernel), List.mem_of_getElem? (i := 632) (by decide +kernel)⟩
theorem lw_p18 : lw_okq (⟨"IronedOut$Reader", "readNot", "(I)Z"⟩, 10) := ⟨⟨by decide +kernel, by decide +kernel⟩, List.mem_of_getElem? (i := 31) (by decide +kernel), List.mem_of_getElem? (i := 635) (by decide +kernel), List.mem_of_getElem? (i := 636) (by decide +kernel)⟩
theorem lw_p19 : lw_okq (⟨"IronedOut$Reader", "passKept", "(I)Z"⟩, 10) := ⟨⟨by decide +kernel, by decide +kernel⟩, List.mem_of_getElem? (i := 31) (by decide +kernel), List.mem_of_getElem? (i := 639) (by decide +kernel), List.mem_of_getElem? (i := 640) (by decide +kernel)⟩
theorem lw_p20 : lw_okq (⟨"IronedOut$Reader", "readChanged", "(II)Z"⟩, 10) := ⟨⟨by decide +kernel, by decide +kernel⟩, List.mem_of_getElem? (i := 31) (by decide +kernel), List.mem_of_getElem? (i := 647) (by decide +kernel), List.mem_of_getElem? (i := 648) (by decide +kernel)⟩
theorem lw_p21 : lw_okq (⟨"IronedOut$Spa", "pressOne", "(I)V"⟩, 21) := ⟨⟨by decide +kernel, by decide +kernel⟩, List.mem_of_getElem? (i := 185) (by decide +kernel), List.mem_of_getElem? (i := 690) (by decide +kernel), List.mem_of_getElem? (i := 691) (by decide +kernel)⟩
theorem lw_p22 : lw_okq (⟨"IronedOut$Spa", "withoutLaw", "(II)I"⟩, 21) := ⟨⟨by decide +kernel, by decide +kernel⟩, List.mem_of_getElem? (i := 185) (by decide +kernel), List.mem_of_getElem? (i := 698) (by decide +kernel), List.mem_of_getElem? (i := 699) (by decide +kernel)⟩
theorem lw_p23 : lw_okq (⟨"IronedOut$Asker", "last", "()I"⟩, 2) := ⟨⟨by decide +kernel, by decide +kernel⟩, List.mem_of_getElem? (i := 172) (by decide +kernel), List.mem_of_getElem? (i := 707) (by decide +kernel), List.mem_of_getElem? (i := 708) (by decide +kernel)⟩
theorem lw_p24 : lw_okq (⟨"IronedOut$Asker", "put", "(I)V"⟩, 2) := ⟨⟨by decide +kernel, by decide +kernel⟩, List.mem_of_getElem? (i := 172) (by decide +kernel), List.mem_of_getElem? (i := 711) (by decide +kernel), List.mem_of_getElem? (i := 712) (by decide +kernel)⟩
theorem lw_p25 : lw_okq (⟨"IronedOut$Spa", "goWithHanging", "(I)V"⟩, 21) := ⟨⟨by decide +kernel, by decide +kernel⟩, List.mem_of_getElem? (i := 185) (by decide +kernel), List.mem_of_getElem? (i := 757) (by decide +kernel), List.mem_of_getElem? (i := 758) (by decide +kernel)⟩
theorem lw_p26 : lw_okq (⟨"IronedOut$Spa", "goOne", "(I)V"⟩, 21) := ⟨⟨by decide +kernel, by decide +kernel⟩, List.mem_of_getElem? (i := 185) (by decide +kernel), List.mem_of_getElem? (i := 761) (by decide +kernel), List.mem_of_getElem? (i := 762) (by decide +kernel)⟩
theorem lw_p27 : lw_okq (⟨"IronedOut$Spa", "mayComeBack", "(I)Z"⟩, 21) := ⟨⟨by decide +kernel, by decide +kernel⟩, List.mem_of_getElem? (i := 185) (by decide +kernel), List.mem_of_getElem? (i := 773) (by decide +kernel), List.mem_of_getElem? (i := 774) (by decide +kernel)⟩
theorem lw_p28 : lw_okq (⟨"IronedOut$Spa", "comeBack", "(II)V"⟩, 21) := ⟨⟨by decide +kernel, by decide +kernel⟩, List.mem_of_getElem? (i := 185) (by decide +kernel), List.mem_of_getElem? (i := 781) (by decide +kernel), List.mem_of_getElem? (i := 782) (by decide +kernel)⟩
theorem lw_p29 : lw_okq (⟨"IronedOut$Spa", "dampen", "(I)I"⟩, 21) := ⟨⟨by decide +kernel, by decide +kernel⟩, List.mem_of_getElem? (i := 185) (by decide +kernel), List.mem_of_getElem? (i := 793) (by decide +kernel), List.mem_of_getElem? (i := 794) (by decide +kernel)⟩
theorem lw_p30 : lw_okq (⟨"IronedOut$Spa", "passHour", "()V"⟩, 21) := ⟨⟨by decide +kernel, by decide +kernel⟩, List.mem_of_getElem? (i := 185) (by decide +kernel), List.mem_of_getElem? (i := 805) (by decide +kernel), List.mem_of_getElem? (i := 806) (by decide +kernel)⟩
theorem lw_p31 : lw_okq (⟨"IronedOut", "clauseDone", "(LIronedOut$Text;I)Z"⟩, 7) := ⟨⟨by decide +kernel, by decide +kernel⟩, List.mem_of_getElem? (i := 21) (by decide +kernel), List.mem_of_getElem? (i := 813) (by decide +kernel), List.mem_of_getElem? (i := 814) (by decide +kernel)⟩
def lw_privs_2 : List (MethodName × Nat) := [(⟨"IronedOut$Reader", "readBoth", "(I)Z"⟩, 10), (⟨"IronedOut$Reader", "readAsk", "(I)Z"⟩, 10), (⟨"IronedOut$Reader", "readNot", "(I)Z"⟩, 10), (⟨"IronedOut$Reader", "passKept", "(I)Z"⟩, 10), (⟨"IronedOut$Reader", "readChanged", "(II)Z"⟩, 10), (⟨"IronedOut$Spa", "pressOne", "(I)V"⟩, 21), (⟨"IronedOut$Spa", "withoutLaw", "(II)I"⟩, 21), (⟨"IronedOut$Asker", "last", "()I"⟩, 2), (⟨"IronedOut$Asker", "put", "(I)V"⟩, 2), (⟨"IronedOut$Spa", "goWithHanging", "(I)V"⟩, 21), (⟨"IronedOut$Spa", "goOne", "(I)V"⟩, 21), (⟨"IronedOut$Spa", "mayComeBack", "(I)Z"⟩, 21), (⟨"IronedOut$Spa", "comeBack", "(II)V"⟩, 21), (⟨"IronedOut$Spa", "dampen", "(I)I"⟩, 21), (⟨"IronedOut$Spa", "passHour", "()V"⟩, 21), (⟨"IronedOut", "clauseDone", "(LIronedOut$Text;I)Z"⟩, 7)]
theorem lw_r2 : ∀ q ∈ lw_privs_2, lw_okq q := List.forall_mem_cons.mpr ⟨lw_p16, List.forall_mem_cons.mpr ⟨lw_p17, List.forall_mem_cons.mpr ⟨lw_p18, List.forall_mem_cons.mpr ⟨lw_p19, List.forall_mem_cons.mpr ⟨lw_p20, List.forall_mem_cons.mpr ⟨lw_p21, List.forall_mem_cons.mpr ⟨lw_p22, List.forall_mem_cons.mpr ⟨lw_p23, List.forall_mem_cons.mpr ⟨lw_p24, List.forall_mem_cons.mpr ⟨lw_p25, List.forall_mem_cons.mpr ⟨lw_p26, List.forall_mem_cons.mpr ⟨lw_p27, List.forall_mem_cons.mpr ⟨lw_p28, List.forall_mem_cons.mpr ⟨lw_p29, List.forall_mem_cons.mpr ⟨lw_p30, List.forall_mem_cons.mpr ⟨lw_p31, fun _ h => absurd h List.not_mem_nil⟩⟩⟩⟩⟩⟩⟩⟩⟩⟩⟩⟩⟩⟩⟩⟩
theorem lw_p32 : lw_okq (⟨"IronedOut$Spa", "passSeason", "()V"⟩, 21) := ⟨⟨by decide +kernel, by decide +kernel⟩, List.mem_of_getElem? (i := 185) (by decide +kernel), List.mem_of_getElem? (i := 833) (by decide +kernel), List.mem_of_getElem? (i := 834) (by decide +kernel)⟩
theorem lw_p33 : lw_okq (⟨"IronedOut$Reckoner", "within", "(LIronedOut$Spa;II)I"⟩, 2) := ⟨⟨by decide +kernel, by decide +kernel⟩, List.mem_of_getElem? (i := 125) (by decide +kernel), List.mem_of_getElem? (i := 867) (by decide +kernel), List.mem_of_getElem? (i := 868) (by decide +kernel)⟩
theorem lw_p34 : lw_okq (⟨"IronedOut$Reckoner", "wantedTo", "(LIronedOut$Spa;I)I"⟩, 2) := ⟨⟨by decide +kernel, by decide +kernel⟩, List.mem_of_getElem? (i := 125) (by decide +kernel), List.mem_of_getElem? (i := 924) (by decide +kernel), List.mem_of_getElem? (i := 925) (by decide +kernel)⟩
theorem lw_p35 : lw_okq (⟨"IronedOut$Reckoner", "isWhole", "(LIronedOut$Spa;II)Z"⟩, 2) := ⟨⟨by decide +kernel, by decide +kernel⟩, List.mem_of_getElem? (i := 125) (by decide +kernel), List.mem_of_getElem? (i := 930) (by decide +kernel), List.mem_of_getElem? (i := 931) (by decide +kernel)⟩
theorem lw_p36 : lw_okq (⟨"IronedOut$Reckoner", "isFlat", "(LIronedOut$Spa;II)Z"⟩, 2) := ⟨⟨by decide +kernel, by decide +kernel⟩, List.mem_of_getElem? (i := 125) (by decide +kernel), List.mem_of_getElem? (i := 962) (by decide +kernel), List.mem_of_getElem? (i := 963) (by decide +kernel)⟩
theorem lw_p37 : lw_okq (⟨"IronedOut$Finder", "nothingLeft", "()Z"⟩, 6) := ⟨⟨by decide +kernel, by decide +kernel⟩, List.mem_of_getElem? (i := 99) (by decide +kernel), List.mem_of_getElem? (i := 982) (by decide +kernel), List.mem_of_getElem? (i := 983) (by decide +kernel)⟩
theorem lw_p38 : lw_okq (⟨"IronedOut$Finder", "take", "(II)Z"⟩, 6) := ⟨⟨by decide +kernel, by decide +kernel⟩, List.mem_of_getElem? (i := 99) (by decide +kernel), List.mem_of_getElem? (i := 986) (by decide +kernel), List.mem_of_getElem? (i := 987) (by decide +kernel)⟩
theorem lw_p39 : lw_okq (⟨"IronedOutModel", "isPerson", "(I)Z"⟩, 29) := ⟨⟨by decide +kernel, by decide +kernel⟩, List.mem_of_getElem? (i := 1123) (by decide +kernel), List.mem_of_getElem? (i := 1233) (by decide +kernel), List.mem_of_getElem? (i := 1234) (by decide +kernel)⟩
theorem lw_p40 : lw_okq (⟨"IronedOutModel", "put", "(III)V"⟩, 29) := ⟨⟨by decide +kernel, by decide +kernel⟩, List.mem_of_getElem? (i := 1123) (by decide +kernel), List.mem_of_getElem? (i := 1237) (by decide +kernel), List.mem_of_getElem? (i := 1238) (by decide +kernel)⟩
theorem lw_p41 : lw_okq (⟨"IronedOutModel", "isCrease", "(I)Z"⟩, 29) := ⟨⟨by decide +kernel, by decide +kernel⟩, List.mem_of_getElem? (i := 1123) (by decide +kernel), List.mem_of_getElem? (i := 1245) (by decide +kernel), List.mem_of_getElem? (i := 1246) (by decide +kernel)⟩
theorem lw_p42 : lw_okq (⟨"IronedOutModel", "get", "(II)I"⟩, 29) := ⟨⟨by decide +kernel, by decide +kernel⟩, List.mem_of_getElem? (i := 1123) (by decide +kernel), List.mem_of_getElem? (i := 1249) (by decide +kernel), List.mem_of_getElem? (i := 1250) (by decide +kernel)⟩
theorem lw_p43 : lw_okq (⟨"IronedOutModel", "four", "(I)V"⟩, 29) := ⟨⟨by decide +kernel, by decide +kernel⟩, List.mem_of_getElem? (i := 1123) (by decide +kernel), List.mem_of_getElem? (i := 1264) (by decide +kernel), List.mem_of_getElem? (i := 1265) (by decide +kernel)⟩
theorem lw_p44 : lw_okq (⟨"IronedOutModel", "readText", "()I"⟩, 29) := ⟨⟨by decide +kernel, by decide +kernel⟩, List.mem_of_getElem? (i := 1123) (by decide +kernel), List.mem_of_getElem? (i := 1276) (by decide +kernel), List.mem_of_getElem? (i := 1277) (by decide +kernel)⟩
theorem lw_p45 : lw_okq (⟨"IronedOutModel", "nextToken", "()V"⟩, 29) := ⟨⟨by decide +kernel, by decide +kernel⟩, List.mem_of_getElem? (i := 1123) (by decide +kernel), List.mem_of_getElem? (i := 1280) (by decide +kernel), List.mem_of_getElem? (i := 1281) (by decide +kernel)⟩
theorem lw_p46 : lw_okq (⟨"IronedOutModel", "byteAt", "(I)I"⟩, 29) := ⟨⟨by decide +kernel, by decide +kernel⟩, List.mem_of_getElem? (i := 1123) (by decide +kernel), List.mem_of_getElem? (i := 1284) (by decide +kernel), List.mem_of_getElem? (i := 1285) (by decide +kernel)⟩
theorem lw_p47 : lw_okq (⟨"IronedOutModel", "clause", "()I"⟩, 29) := ⟨⟨by decide +kernel, by decide +kernel⟩, List.mem_of_getElem? (i := 1123) (by decide +kernel), List.mem_of_getElem? (i := 1299) (by decide +kernel), List.mem_of_getElem? (i := 1300) (by decide +kernel)⟩
def lw_privs_3 : List (MethodName × Nat) := [(⟨"IronedOut$Spa", "passSeason", "()V"⟩, 21), (⟨"IronedOut$Reckoner", "within", "(LIronedOut$Spa;II)I"⟩, 2), (⟨"IronedOut$Reckoner", "wantedTo", "(LIronedOut$Spa;I)I"⟩, 2), (⟨"IronedOut$Reckoner", "isWhole", "(LIronedOut$Spa;II)Z"⟩, 2), (⟨"IronedOut$Reckoner", "isFlat", "(LIronedOut$Spa;II)Z"⟩, 2), (⟨"IronedOut$Finder", "nothingLeft", "()Z"⟩, 6), (⟨"IronedOut$Finder", "take", "(II)Z"⟩, 6), (⟨"IronedOutModel", "isPerson", "(I)Z"⟩, 29), (⟨"IronedOutModel", "put", "(III)V"⟩, 29), (⟨"IronedOutModel", "isCrease", "(I)Z"⟩, 29), (⟨"IronedOutModel", "get", "(II)I"⟩, 29), (⟨"IronedOutModel", "four", "(I)V"⟩, 29), (⟨"IronedOutModel", "readText", "()I"⟩, 29), (⟨"IronedOutModel", "nextToken", "()V"⟩, 29), (⟨"IronedOutModel", "byteAt", "(I)I"⟩, 29), (⟨"IronedOutModel", "clause", "()I"⟩, 29)]
theorem lw_r3 : ∀ q ∈ lw_privs_3, lw_okq q := List.forall_mem_cons.mpr ⟨lw_p32, List.forall_mem_cons.mpr ⟨lw_p33, List.forall_mem_cons.mpr ⟨lw_p34, List.forall_mem_cons.mpr ⟨lw_p35, List.forall_mem_cons.mpr ⟨lw_p36, List.forall_mem_cons.mpr ⟨lw_p37, List.forall_mem_cons.mpr ⟨lw_p38, List.forall_mem_cons.mpr ⟨lw_p39, List.forall_mem_cons.mpr ⟨lw_p40, List.forall_mem_cons.mpr ⟨lw_p41, List.forall_mem_cons.mpr ⟨lw_p42, List.forall_mem_cons.mpr ⟨lw_p43, List.forall_mem_cons.mpr ⟨lw_p44, List.forall_mem_cons.mpr ⟨lw_p45, List.forall_mem_cons.mpr ⟨lw_p46, List.forall_mem_cons.mpr ⟨lw_p47, fun _ h => absurd h List.not_mem_nil⟩⟩⟩⟩⟩⟩⟩⟩⟩⟩⟩⟩⟩⟩⟩⟩
theorem lw_p48 : lw_okq (⟨"IronedOutModel", "sortOf", "()I"⟩, 29) := ⟨⟨by decide +kernel, by decide +kernel⟩, List.mem_of_getElem? (i := 1123) (by decide +kernel), List.mem_of_getElem? (i := 1303) (by decide +kernel), List.mem_of_getElem? (i := 1304) (by decide +kernel)⟩
theorem lw_p49 : lw_okq (⟨"IronedOutModel", "isLong", "(JJI)Z"⟩, 29) := ⟨⟨by decide +kernel, by decide +kernel⟩, List.mem_of_getElem? (i := 1123) (by decide +kernel), List.mem_of_getElem? (i := 1316) (by decide +kernel), List.mem_of_getElem? (i := 1317) (by decide +kernel)⟩
theorem lw_p50 : lw_okq (⟨"IronedOutModel", "isWord", "(J)Z"⟩, 29) := ⟨⟨by decide +kernel, by decide +kernel⟩, List.mem_of_getElem? (i := 1123) (by decide +kernel), List.mem_of_getElem? (i := 1323) (by decide +kernel), List.mem_of_getElem? (i := 1324) (by decide +kernel)⟩
theorem lw_p51 : lw_okq (⟨"IronedOutModel", "body", "(II)I"⟩, 29) := ⟨⟨by decide +kernel, by decide +kernel⟩, List.mem_of_getElem? (i := 1123) (by decide +kernel), List.mem_of_getElem? (i := 1330) (by decide +kernel), List.mem_of_getElem? (i := 1331) (by decide +kernel)⟩
theorem lw_p52 : lw_okq (⟨"IronedOutModel", "pair", "(IIJI)I"⟩, 29) := ⟨⟨by decide +kernel, by decide +kernel⟩, List.mem_of_getElem? (i := 1123) (by decide +kernel), List.mem_of_getElem? (i := 1334) (by decide +kernel), List.mem_of_getElem? (i := 1335) (by decide +kernel)⟩
theorem lw_p53 : lw_okq (⟨"IronedOutModel", "figure", "(III)I"⟩, 29) := ⟨⟨by decide +kernel, by decide +kernel⟩, List.mem_of_getElem? (i := 1123) (by decide +kernel), List.mem_of_getElem? (i := 1338) (by decide +kernel), List.mem_of_getElem? (i := 1339) (by decide +kernel)⟩
theorem lw_p54 : lw_okq (⟨"IronedOutModel", "worded", "(JIII)I"⟩, 29) := ⟨⟨by decide +kernel, by decide +kernel⟩, List.mem_of_getElem? (i := 1123) (by decide +kernel), List.mem_of_getElem? (i := 1342) (by decide +kernel), List.mem_of_getElem? (i := 1343) (by decide +kernel)⟩
theorem lw_p55 : lw_okq (⟨"IronedOutModel", "creaseClause", "(I)I"⟩, 29) := ⟨⟨by decide +kernel, by decide +kernel⟩, List.mem_of_getElem? (i := 1123) (by decide +kernel), List.mem_of_getElem? (i := 1346) (by decide +kernel), List.mem_of_getElem? (i := 1347) (by decide +kernel)⟩
theorem lw_p56 : lw_okq (⟨"IronedOutModel", "lawClause", "(I)I"⟩, 29) := ⟨⟨by decide +kernel, by decide +kernel⟩, List.mem_of_getElem? (i := 1123) (by decide +kernel), List.mem_of_getElem? (i := 1350) (by decide +kernel), List.mem_of_getElem? (i := 1351) (by decide +kernel)⟩
theorem lw_p57 : lw_okq (⟨"IronedOutModel", "summed", "()I"⟩, 29) := ⟨⟨by decide +kernel, by decide +kernel⟩, List.mem_of_getElem? (i := 1123) (by decide +kernel), List.mem_of_getElem? (i := 1354) (by decide +kernel), List.mem_of_getElem? (i := 1355) (by decide +kernel)⟩
theorem lw_p58 : lw_okq (⟨"IronedOutModel", "behindOne", "()Z"⟩, 29) := ⟨⟨by decide +kernel, by decide +kernel⟩, List.mem_of_getElem? (i := 1123) (by decide +kernel), List.mem_of_getElem? (i := 1358) (by decide +kernel), List.mem_of_getElem? (i := 1359) (by decide +kernel)⟩
theorem lw_p59 : lw_okq (⟨"IronedOutModel", "betweenOf", "()I"⟩, 29) := ⟨⟨by decide +kernel, by decide +kernel⟩, List.mem_of_getElem? (i := 1123) (by decide +kernel), List.mem_of_getElem? (i := 1362) (by decide +kernel), List.mem_of_getElem? (i := 1363) (by decide +kernel)⟩
theorem lw_p60 : lw_okq (⟨"IronedOutModel", "openNow", "()I"⟩, 29) := ⟨⟨by decide +kernel, by decide +kernel⟩, List.mem_of_getElem? (i := 1123) (by decide +kernel), List.mem_of_getElem? (i := 1366) (by decide +kernel), List.mem_of_getElem? (i := 1367) (by decide +kernel)⟩
theorem lw_p61 : lw_okq (⟨"IronedOutModel", "openAt", "()I"⟩, 29) := ⟨⟨by decide +kernel, by decide +kernel⟩, List.mem_of_getElem? (i := 1123) (by decide +kernel), List.mem_of_getElem? (i := 1370) (by decide +kernel), List.mem_of_getElem? (i := 1371) (by decide +kernel)⟩
theorem lw_p62 : lw_okq (⟨"IronedOutModel", "isCompared", "()Z"⟩, 29) := ⟨⟨by decide +kernel, by decide +kernel⟩, List.mem_of_getElem? (i := 1123) (by decide +kernel), List.mem_of_getElem? (i := 1374) (by decide +kernel), List.mem_of_getElem? (i := 1375) (by decide +kernel)⟩
theorem lw_p63 : lw_okq (⟨"IronedOutModel", "compareOf", "()I"⟩, 29) := ⟨⟨by decide +kernel, by decide +kernel⟩, List.mem_of_getElem? (i := 1123) (by decide +kernel), List.mem_of_getElem? (i := 1381) (by decide +kernel), List.mem_of_getElem? (i := 1382) (by decide +kernel)⟩
def lw_privs_4 : List (MethodName × Nat) := [(⟨"IronedOutModel", "sortOf", "()I"⟩, 29), (⟨"IronedOutModel", "isLong", "(JJI)Z"⟩, 29), (⟨"IronedOutModel", "isWord", "(J)Z"⟩, 29), (⟨"IronedOutModel", "body", "(II)I"⟩, 29), (⟨"IronedOutModel", "pair", "(IIJI)I"⟩, 29), (⟨"IronedOutModel", "figure", "(III)I"⟩, 29), (⟨"IronedOutModel", "worded", "(JIII)I"⟩, 29), (⟨"IronedOutModel", "creaseClause", "(I)I"⟩, 29), (⟨"IronedOutModel", "lawClause", "(I)I"⟩, 29), (⟨"IronedOutModel", "summed", "()I"⟩, 29), (⟨"IronedOutModel", "behindOne", "()Z"⟩, 29), (⟨"IronedOutModel", "betweenOf", "()I"⟩, 29), (⟨"IronedOutModel", "openNow", "()I"⟩, 29), (⟨"IronedOutModel", "openAt", "()I"⟩, 29), (⟨"IronedOutModel", "isCompared", "()Z"⟩, 29), (⟨"IronedOutModel", "compareOf", "()I"⟩, 29)]
theorem lw_r4 : ∀ q ∈ lw_privs_4, lw_okq q := List.forall_mem_cons.mpr ⟨lw_p48, List.forall_mem_cons.mpr ⟨lw_p49, List.forall_mem_cons.mpr ⟨lw_p50, List.forall_mem_cons.mpr ⟨lw_p51, List.forall_mem_cons.mpr ⟨lw_p52, List.forall_mem_cons.mpr ⟨lw_p53, List.forall_mem_cons.mpr ⟨lw_p54, List.forall_mem_cons.mpr ⟨lw_p55, List.forall_mem_cons.mpr ⟨lw_p56, List.forall_mem_cons.mpr ⟨lw_p57, List.forall_mem_cons.mpr ⟨lw_p58, List.forall_mem_cons.mpr ⟨lw_p59, List.forall_mem_cons.mpr ⟨lw_p60, List.forall_mem_cons.mpr ⟨lw_p61, List.forall_mem_cons.mpr ⟨lw_p62, List.forall_mem_cons.mpr ⟨lw_p63, fun _ h => absurd h List.not_mem_nil⟩⟩⟩⟩⟩⟩⟩⟩⟩⟩⟩⟩⟩⟩⟩⟩
theorem lw_p64 : lw_okq (⟨"IronedOutModel", "settle", "(I)V"⟩, 29) := ⟨⟨by decide +kernel, by decide +kernel⟩, List.mem_of_getElem? (i := 1123) (by decide +kernel), List.mem_of_getElem? (i := 1385) (by decide +kernel), List.mem_of_getElem? (i := 1386) (by decide +kernel)⟩
theorem lw_p65 : lw_okq (⟨"IronedOutModel", "emit", "(II)V"⟩, 29) := ⟨⟨by decide +kernel, by decide +kernel⟩, List.mem_of_getElem? (i := 1123) (by decide +kernel), List.mem_of_getElem? (i := 1389) (by decide +kernel), List.mem_of_getElem? (i := 1390) (by decide +kernel)⟩
theorem lw_p66 : lw_okq (⟨"IronedOutModel", "partOf", "(I)I"⟩, 29) := ⟨⟨by decide +kernel, by decide +kernel⟩, List.mem_of_getElem? (i := 1123) (by decide +kernel), List.mem_of_getElem? (i := 1393) (by decide +kernel), List.mem_of_getElem? (i := 1394) (by decide +kernel)⟩
theorem lw_p67 : lw_okq (⟨"IronedOutModel", "beginOne", "()I"⟩, 29) := ⟨⟨by decide +kernel, by decide +kernel⟩, List.mem_of_getElem? (i := 1123) (by decide +kernel), List.mem_of_getElem? (i := 1397) (by decide +kernel), List.mem_of_getElem? (i := 1398) (by decide +kernel)⟩
theorem lw_p68 : lw_okq (⟨"IronedOutModel", "nameOf", "()I"⟩, 29) := ⟨⟨by decide +kernel, by decide +kernel⟩, List.mem_of_getElem? (i := 1123) (by decide +kernel), List.mem_of_getElem? (i := 1401) (by decide +kernel), List.mem_of_getElem? (i := 1402) (by decide +kernel)⟩
theorem lw_p69 : lw_okq (⟨"IronedOutModel", "isOf", "(I)Z"⟩, 29) := ⟨⟨by decide +kernel, by decide +kernel⟩, List.mem_of_getElem? (i := 1123) (by decide +kernel), List.mem_of_getElem? (i := 1405) (by decide +kernel), List.mem_of_getElem? (i := 1406) (by decide +kernel)⟩
theorem lw_p70 : lw_okq (⟨"IronedOutModel", "opened", "(I)I"⟩, 29) := ⟨⟨by decide +kernel, by decide +kernel⟩, List.mem_of_getElem? (i := 1123) (by decide +kernel), List.mem_of_getElem? (i := 1409) (by decide +kernel), List.mem_of_getElem? (i := 1410) (by decide +kernel)⟩
theorem lw_p71 : lw_okq (⟨"IronedOutModel", "isAskAhead", "()Z"⟩, 29) := ⟨⟨by decide +kernel, by decide +kernel⟩, List.mem_of_getElem? (i := 1123) (by decide +kernel), List.mem_of_getElem? (i := 1413) (by decide +kernel), List.mem_of_getElem? (i := 1414) (by decide +kernel)⟩
theorem lw_p72 : lw_okq (⟨"IronedOutModel", "own", "(II)I"⟩, 29) := ⟨⟨by decide +kernel, by decide +kernel⟩, List.mem_of_getElem? (i := 1123) (by decide +kernel), List.mem_of_getElem? (i := 1429) (by decide +kernel), List.mem_of_getElem? (i := 1430) (by decide +kernel)⟩
theorem lw_p73 : lw_okq (⟨"IronedOutModel", "isThere", "(I)Z"⟩, 29) := ⟨⟨by decide +kernel, by decide +kernel⟩, List.mem_of_getElem? (i := 1123) (by decide +kernel), List.mem_of_getElem? (i := 1437) (by decide +kernel), List.mem_of_getElem? (i := 1438) (by decide +kernel)⟩
theorem lw_p74 : lw_okq (⟨"IronedOutModel", "keep", "()V"⟩, 29) := ⟨⟨by decide +kernel, by decide +kernel⟩, List.mem_of_getElem? (i := 1123) (by decide +kernel), List.mem_of_getElem? (i := 1441) (by decide +kernel), List.mem_of_getElem? (i := 1442) (by decide +kernel)⟩
theorem lw_p75 : lw_okq (⟨"IronedOutModel", "pressNow", "(I)V"⟩, 29) := ⟨⟨by decide +kernel, by decide +kernel⟩, List.mem_of_getElem? (i := 1123) (by decide +kernel), List.mem_of_getElem? (i := 1445) (by decide +kernel), List.mem_of_getElem? (i := 1446) (by decide +kernel)⟩
theorem lw_p76 : lw_okq (⟨"IronedOutModel", "pressesOf", "(I)I"⟩, 29) := ⟨⟨by decide +kernel, by decide +kernel⟩, List.mem_of_getElem? (i := 1123) (by decide +kernel), List.mem_of_getElem? (i := 1449) (by decide +kernel), List.mem_of_getElem? (i := 1450) (by decide +kernel)⟩
theorem lw_p77 : lw_okq (⟨"IronedOutModel", "name", "(I)V"⟩, 29) := ⟨⟨by decide +kernel, by decide +kernel⟩, List.mem_of_getElem? (i := 1123) (by decide +kernel), List.mem_of_getElem? (i := 1453) (by decide +kernel), List.mem_of_getElem? (i := 1454) (by decide +kernel)⟩
theorem lw_p78 : lw_okq (⟨"IronedOutModel", "hangingOn", "(I)I"⟩, 29) := ⟨⟨by decide +kernel, by decide +kernel⟩, List.mem_of_getElem? (i := 1123) (by decide +kernel), List.mem_of_getElem? (i := 1457) (by decide +kernel), List.mem_of_getElem? (i := 1458) (by decide +kernel)⟩
theorem lw_p79 : lw_okq (⟨"IronedOutModel", "says", "(IIII)I"⟩, 29) := ⟨⟨by decide +kernel, by decide +kernel⟩, List.mem_of_getElem? (i := 1123) (by decide +kernel), List.mem_of_getElem? (i := 1464) (by decide +kernel), List.mem_of_getElem? (i := 1465) (by decide +kernel)⟩
def lw_privs_5 : List (MethodName × Nat) := [(⟨"IronedOutModel", "settle", "(I)V"⟩, 29), (⟨"IronedOutModel", "emit", "(II)V"⟩, 29), (⟨"IronedOutModel", "partOf", "(I)I"⟩, 29), (⟨"IronedOutModel", "beginOne", "()I"⟩, 29), (⟨"IronedOutModel", "nameOf", "()I"⟩, 29), (⟨"IronedOutModel", "isOf", "(I)Z"⟩, 29), (⟨"IronedOutModel", "opened", "(I)I"⟩, 29), (⟨"IronedOutModel", "isAskAhead", "()Z"⟩, 29), (⟨"IronedOutModel", "own", "(II)I"⟩, 29), (⟨"IronedOutModel", "isThere", "(I)Z"⟩, 29), (⟨"IronedOutModel", "keep", "()V"⟩, 29), (⟨"IronedOutModel", "pressNow", "(I)V"⟩, 29), (⟨"IronedOutModel", "pressesOf", "(I)I"⟩, 29), (⟨"IronedOutModel", "name", "(I)V"⟩, 29), (⟨"IronedOutModel", "hangingOn", "(I)I"⟩, 29), (⟨"IronedOutModel", "says", "(IIII)I"⟩, 29)]
theorem lw_r5 : ∀ q ∈ lw_privs_5, lw_okq q := List.forall_mem_cons.mpr ⟨lw_p64, List.forall_mem_cons.mpr ⟨lw_p65, List.forall_mem_cons.mpr ⟨lw_p66, List.forall_mem_cons.mpr ⟨lw_p67, List.forall_mem_cons.mpr ⟨lw_p68, List.forall_mem_cons.mpr ⟨lw_p69, List.forall_mem_cons.mpr ⟨lw_p70, List.forall_mem_cons.mpr ⟨lw_p71, List.forall_mem_cons.mpr ⟨lw_p72, List.forall_mem_cons.mpr ⟨lw_p73, List.forall_mem_cons.mpr ⟨lw_p74, List.forall_mem_cons.mpr ⟨lw_p75, List.forall_mem_cons.mpr ⟨lw_p76, List.forall_mem_cons.mpr ⟨lw_p77, List.forall_mem_cons.mpr ⟨lw_p78, List.forall_mem_cons.mpr ⟨lw_p79, fun _ h => absurd h List.not_mem_nil⟩⟩⟩⟩⟩⟩⟩⟩⟩⟩⟩⟩⟩⟩⟩⟩
theorem lw_p80 : lw_okq (⟨"IronedOutModel", "summedUp", "(II)J"⟩, 29) := ⟨⟨by decide +kernel, by decide +kernel⟩, List.mem_of_getElem? (i := 1123) (by decide +kernel), List.mem_of_getElem? (i := 1468) (by decide +kernel), List.mem_of_getElem? (i := 1469) (by decide +kernel)⟩
theorem lw_p81 : lw_okq (⟨"IronedOutModel", "deepOf", "(J)J"⟩, 29) := ⟨⟨by decide +kernel, by decide +kernel⟩, List.mem_of_getElem? (i := 1123) (by decide +kernel), List.mem_of_getElem? (i := 1472) (by decide +kernel), List.mem_of_getElem? (i := 1473) (by decide +kernel)⟩
theorem lw_p82 : lw_okq (⟨"IronedOutModel", "scorchesOf", "(I)I"⟩, 29) := ⟨⟨by decide +kernel, by decide +kernel⟩, List.mem_of_getElem? (i := 1123) (by decide +kernel), List.mem_of_getElem? (i := 1497) (by decide +kernel), List.mem_of_getElem? (i := 1498) (by decide +kernel)⟩
theorem lw_p83 : lw_okq (⟨"IronedOutModel", "anew", "()V"⟩, 29) := ⟨⟨by decide +kernel, by decide +kernel⟩, List.mem_of_getElem? (i := 1123) (by decide +kernel), List.mem_of_getElem? (i := 1501) (by decide +kernel), List.mem_of_getElem? (i := 1502) (by decide +kernel)⟩
theorem lw_p84 : lw_okq (⟨"IronedOutModel", "become", "(III)V"⟩, 29) := ⟨⟨by decide +kernel, by decide +kernel⟩, List.mem_of_getElem? (i := 1123) (by decide +kernel), List.mem_of_getElem? (i := 1508) (by decide +kernel), List.mem_of_getElem? (i := 1509) (by decide +kernel)⟩
theorem lw_p85 : lw_okq (⟨"IronedOutModel", "write", "(II)V"⟩, 29) := ⟨⟨by decide +kernel, by decide +kernel⟩, List.mem_of_getElem? (i := 1123) (by decide +kernel), List.mem_of_getElem? (i := 1512) (by decide +kernel), List.mem_of_getElem? (i := 1513) (by decide +kernel)⟩
theorem lw_p86 : lw_okq (⟨"IronedOutModel", "priceOf", "(II)I"⟩, 29) := ⟨⟨by decide +kernel, by decide +kernel⟩, List.mem_of_getElem? (i := 1123) (by decide +kernel), List.mem_of_getElem? (i := 1516) (by decide +kernel), List.mem_of_getElem? (i := 1517) (by decide +kernel)⟩
theorem lw_p87 : lw_okq (⟨"IronedOutModel", "canBack", "(I)Z"⟩, 29) := ⟨⟨by decide +kernel, by decide +kernel⟩, List.mem_of_getElem? (i := 1123) (by decide +kernel), List.mem_of_getElem? (i := 1524) (by decide +kernel), List.mem_of_getElem? (i := 1525) (by decide +kernel)⟩
theorem lw_p88 : lw_okq (⟨"IronedOutModel", "there", "()I"⟩, 29) := ⟨⟨by decide +kernel, by decide +kernel⟩, List.mem_of_getElem? (i := 1123) (by decide +kernel), List.mem_of_getElem? (i := 1528) (by decide +kernel), List.mem_of_getElem? (i := 1529) (by decide +kernel)⟩
theorem lw_p89 : lw_okq (⟨"IronedOutModel", "dampNow", "(I)I"⟩, 29) := ⟨⟨by decide +kernel, by decide +kernel⟩, List.mem_of_getElem? (i := 1123) (by decide +kernel), List.mem_of_getElem? (i := 1536) (by decide +kernel), List.mem_of_getElem? (i := 1537) (by decide +kernel)⟩
theorem lw_p90 : lw_okq (⟨"IronedOutModel", "arePassed", "(I)Z"⟩, 29) := ⟨⟨by decide +kernel, by decide +kernel⟩, List.mem_of_getElem? (i := 1123) (by decide +kernel), List.mem_of_getElem? (i := 1544) (by decide +kernel), List.mem_of_getElem? (i := 1545) (by decide +kernel)⟩
theorem lw_p91 : lw_okq (⟨"IronedOutModel", "pass", "()V"⟩, 29) := ⟨⟨by decide +kernel, by decide +kernel⟩, List.mem_of_getElem? (i := 1123) (by decide +kernel), List.mem_of_getElem? (i := 1548) (by decide +kernel), List.mem_of_getElem? (i := 1549) (by decide +kernel)⟩
theorem lw_p92 : lw_okq (⟨"IronedOutModel", "isPlayed", "(I)Z"⟩, 29) := ⟨⟨by decide +kernel, by decide +kernel⟩, List.mem_of_getElem? (i := 1123) (by decide +kernel), List.mem_of_getElem? (i := 1556) (by decide +kernel), List.mem_of_getElem? (i := 1557) (by decide +kernel)⟩
theorem lw_p93 : lw_okq (⟨"IronedOutModel", "happens", "(I)V"⟩, 29) := ⟨⟨by decide +kernel, by decide +kernel⟩, List.mem_of_getElem? (i := 1123) (by decide +kernel), List.mem_of_getElem? (i := 1571) (by decide +kernel), List.mem_of_getElem? (i := 1572) (by decide +kernel)⟩
theorem lw_p94 : lw_okq (⟨"IronedOutModel", "ownedBy", "(I)I"⟩, 29) := ⟨⟨by decide +kernel, by decide +kernel⟩, List.mem_of_getElem? (i := 1123) (by decide +kernel), List.mem_of_getElem? (i := 1579) (by decide +kernel), List.mem_of_getElem? (i := 1580) (by decide +kernel)⟩
theorem lw_p95 : lw_okq (⟨"IronedOutModel", "worthOf", "(I)I"⟩, 29) := ⟨⟨by decide +kernel, by decide +kernel⟩, List.mem_of_getElem? (i := 1123) (by decide +kernel), List.mem_of_getElem? (i := 1583) (by decide +kernel), List.mem_of_getElem? (i := 1584) (by decide +kernel)⟩
def lw_privs_6 : List (MethodName × Nat) := [(⟨"IronedOutModel", "summedUp", "(II)J"⟩, 29), (⟨"IronedOutModel", "deepOf", "(J)J"⟩, 29), (⟨"IronedOutModel", "scorchesOf", "(I)I"⟩, 29), (⟨"IronedOutModel", "anew", "()V"⟩, 29), (⟨"IronedOutModel", "become", "(III)V"⟩, 29), (⟨"IronedOutModel", "write", "(II)V"⟩, 29), (⟨"IronedOutModel", "priceOf", "(II)I"⟩, 29), (⟨"IronedOutModel", "canBack", "(I)Z"⟩, 29), (⟨"IronedOutModel", "there", "()I"⟩, 29), (⟨"IronedOutModel", "dampNow", "(I)I"⟩, 29), (⟨"IronedOutModel", "arePassed", "(I)Z"⟩, 29), (⟨"IronedOutModel", "pass", "()V"⟩, 29), (⟨"IronedOutModel", "isPlayed", "(I)Z"⟩, 29), (⟨"IronedOutModel", "happens", "(I)V"⟩, 29), (⟨"IronedOutModel", "ownedBy", "(I)I"⟩, 29), (⟨"IronedOutModel", "worthOf", "(I)I"⟩, 29)]
theorem lw_r6 : ∀ q ∈ lw_privs_6, lw_okq q := List.forall_mem_cons.mpr ⟨lw_p80, List.forall_mem_cons.mpr ⟨lw_p81, List.forall_mem_cons.mpr ⟨lw_p82, List.forall_mem_cons.mpr ⟨lw_p83, List.forall_mem_cons.mpr ⟨lw_p84, List.forall_mem_cons.mpr ⟨lw_p85, List.forall_mem_cons.mpr ⟨lw_p86, List.forall_mem_cons.mpr ⟨lw_p87, List.forall_mem_cons.mpr ⟨lw_p88, List.forall_mem_cons.mpr ⟨lw_p89, List.forall_mem_cons.mpr ⟨lw_p90, List.forall_mem_cons.mpr ⟨lw_p91, List.forall_mem_cons.mpr ⟨lw_p92, List.forall_mem_cons.mpr ⟨lw_p93, List.forall_mem_cons.mpr ⟨lw_p94, List.forall_mem_cons.mpr ⟨lw_p95, fun _ h => absurd h List.not_mem_nil⟩⟩⟩⟩⟩⟩⟩⟩⟩⟩⟩⟩⟩⟩⟩⟩
theorem lw_p96 : lw_okq (⟨"IronedOutModel", "spanOf", "(I)I"⟩, 29) := ⟨⟨by decide +kernel, by decide +kernel⟩, List.mem_of_getElem? (i := 1123) (by decide +kernel), List.mem_of_getElem? (i := 1587) (by decide +kernel), List.mem_of_getElem? (i := 1588) (by decide +kernel)⟩
theorem lw_p97 : lw_okq (⟨"IronedOutModel", "isCreased", "(II)Z"⟩, 29) := ⟨⟨by decide +kernel, by decide +kernel⟩, List.mem_of_getElem? (i := 1123) (by decide +kernel), List.mem_of_getElem? (i := 1591) (by decide +kernel), List.mem_of_getElem? (i := 1592) (by decide +kernel)⟩
theorem lw_p98 : lw_okq (⟨"IronedOutModel", "entry", "(II)I"⟩, 29) := ⟨⟨by decide +kernel, by decide +kernel⟩, List.mem_of_getElem? (i := 1123) (by decide +kernel), List.mem_of_getElem? (i := 1607) (by decide +kernel), List.mem_of_getElem? (i := 1608) (by decide +kernel)⟩
theorem lw_p99 : lw_okq (⟨"IronedOutModel", "tensOf", "(I)I"⟩, 29) := ⟨⟨by decide +kernel, by decide +kernel⟩, List.mem_of_getElem? (i := 1123) (by decide +kernel), List.mem_of_getElem? (i := 1631) (by decide +kernel), List.mem_of_getElem? (i := 1632) (by decide +kernel)⟩
theorem lw_p100 : lw_okq (⟨"IronedOutModel", "wanted", "(I)I"⟩, 29) := ⟨⟨by decide +kernel, by decide +kernel⟩, List.mem_of_getElem? (i := 1123) (by decide +kernel), List.mem_of_getElem? (i := 1647) (by decide +kernel), List.mem_of_getElem? (i := 1648) (by decide +kernel)⟩
theorem lw_p101 : lw_okq (⟨"IronedOutModel", "isClosed", "(I)Z"⟩, 29) := ⟨⟨by decide +kernel, by decide +kernel⟩, List.mem_of_getElem? (i := 1123) (by decide +kernel), List.mem_of_getElem? (i := 1651) (by decide +kernel), List.mem_of_getElem? (i := 1652) (by decide +kernel)⟩
theorem lw_p102 : lw_okq (⟨"IronedOutModel", "endOf", "(II)I"⟩, 29) := ⟨⟨by decide +kernel, by decide +kernel⟩, List.mem_of_getElem? (i := 1123) (by decide +kernel), List.mem_of_getElem? (i := 1664) (by decide +kernel), List.mem_of_getElem? (i := 1665) (by decide +kernel)⟩
theorem lw_p103 : lw_okq (⟨"IronedOutModel", "isFlat", "(III)Z"⟩, 29) := ⟨⟨by decide +kernel, by decide +kernel⟩, List.mem_of_getElem? (i := 1123) (by decide +kernel), List.mem_of_getElem? (i := 1672) (by decide +kernel), List.mem_of_getElem? (i := 1673) (by decide +kernel)⟩
theorem lw_p104 : lw_okq (⟨"IronedOutModel", "laySets", "(I)V"⟩, 29) := ⟨⟨by decide +kernel, by decide +kernel⟩, List.mem_of_getElem? (i := 1123) (by decide +kernel), List.mem_of_getElem? (i := 1684) (by decide +kernel), List.mem_of_getElem? (i := 1685) (by decide +kernel)⟩
theorem lw_p105 : lw_okq (⟨"IronedOutModel", "isSeamed", "(I)Z"⟩, 29) := ⟨⟨by decide +kernel, by decide +kernel⟩, List.mem_of_getElem? (i := 1123) (by decide +kernel), List.mem_of_getElem? (i := 1688) (by decide +kernel), List.mem_of_getElem? (i := 1689) (by decide +kernel)⟩
theorem lw_p106 : lw_okq (⟨"IronedOutModel", "layTurns", "(I)V"⟩, 29) := ⟨⟨by decide +kernel, by decide +kernel⟩, List.mem_of_getElem? (i := 1123) (by decide +kernel), List.mem_of_getElem? (i := 1704) (by decide +kernel), List.mem_of_getElem? (i := 1705) (by decide +kernel)⟩
theorem lw_p107 : lw_okq (⟨"IronedOutModel", "layWhole", "(I)V"⟩, 29) := ⟨⟨by decide +kernel, by decide +kernel⟩, List.mem_of_getElem? (i := 1123) (by decide +kernel), List.mem_of_getElem? (i := 1708) (by decide +kernel), List.mem_of_getElem? (i := 1709) (by decide +kernel)⟩
def lw_privs_7 : List (MethodName × Nat) := [(⟨"IronedOutModel", "spanOf", "(I)I"⟩, 29), (⟨"IronedOutModel", "isCreased", "(II)Z"⟩, 29), (⟨"IronedOutModel", "entry", "(II)I"⟩, 29), (⟨"IronedOutModel", "tensOf", "(I)I"⟩, 29), (⟨"IronedOutModel", "wanted", "(I)I"⟩, 29), (⟨"IronedOutModel", "isClosed", "(I)Z"⟩, 29), (⟨"IronedOutModel", "endOf", "(II)I"⟩, 29), (⟨"IronedOutModel", "isFlat", "(III)Z"⟩, 29), (⟨"IronedOutModel", "laySets", "(I)V"⟩, 29), (⟨"IronedOutModel", "isSeamed", "(I)Z"⟩, 29), (⟨"IronedOutModel", "layTurns", "(I)V"⟩, 29), (⟨"IronedOutModel", "layWhole", "(I)V"⟩, 29)]
theorem lw_r7 : ∀ q ∈ lw_privs_7, lw_okq q := List.forall_mem_cons.mpr ⟨lw_p96, List.forall_mem_cons.mpr ⟨lw_p97, List.forall_mem_cons.mpr ⟨lw_p98, List.forall_mem_cons.mpr ⟨lw_p99, List.forall_mem_cons.mpr ⟨lw_p100, List.forall_mem_cons.mpr ⟨lw_p101, List.forall_mem_cons.mpr ⟨lw_p102, List.forall_mem_cons.mpr ⟨lw_p103, List.forall_mem_cons.mpr ⟨lw_p104, List.forall_mem_cons.mpr ⟨lw_p105, List.forall_mem_cons.mpr ⟨lw_p106, List.forall_mem_cons.mpr ⟨lw_p107, fun _ h => absurd h List.not_mem_nil⟩⟩⟩⟩⟩⟩⟩⟩⟩⟩⟩⟩
def lw_privs : List (MethodName × Nat) := lw_privs_1 ++ (lw_privs_2 ++ (lw_privs_3 ++ (lw_privs_4 ++ (lw_privs_5 ++ (lw_privs_6 ++ (lw_privs_7))))))
def lw_tbl : List Cond := k2_sels lw_privs ++ tables_1
theorem lw_privs_ok : ∀ q ∈ lw_privs, lw_okq q := by
  show ∀ q ∈ lw_privs_1 ++ (lw_privs_2 ++ (lw_privs_3 ++ (lw_privs_4 ++ (lw_privs_5 ++ (lw_privs_6 ++ (lw_privs_7)))))), lw_okq q
  exact List.forall_mem_append.mpr ⟨lw_r1, List.forall_mem_append.mpr ⟨lw_r2, List.forall_mem_append.mpr ⟨lw_r3, List.forall_mem_append.mpr ⟨lw_r4, List.forall_mem_append.mpr ⟨lw_r5, List.forall_mem_append.mpr ⟨lw_r6, lw_r7⟩⟩⟩⟩⟩⟩
-- ===== end of PART A; then your names; then what follows =====
def RX0 : String := "IronedOut$Asker"
def TX0 : u_T := fun k => match k with
  | 0 => ("IronedOut$Asker", "waiting", "[I", true)
  | _ => ("IronedOut$Asker", "count", "I", false)
def tyX0 : Nat → FieldType := fun k => match k with
  | 0 => .array .int
  | _ => .int
abbrev wsX00 : List Cond := u_ws RX0 TX0 2
theorem nmX0 : ∀ a, a < 2 → ∀ b, b < 2 → a ≠ b → (TX0 a).2.1 ≠ (TX0 b).2.1 := by decide +kernel
theorem tyX0_ok : ∀ k, k < 2 → parseFieldDescriptor (TX0 k).2.2.1 = some (tyX0 k) := by decide +kernel
abbrev cX0_init : ByteArray := prog_2_method_1_code
def yX0_init : MethodName := ⟨RX0, "<init>", "()V"⟩
abbrev cX0_ask : ByteArray := prog_2_method_2_code
def yX0_ask : MethodName := ⟨RX0, "ask", "(LIronedOut$Text;ILIronedOut$Spa;I)I"⟩
abbrev cX0_put : ByteArray := prog_2_method_3_code
def yX0_put : MethodName := ⟨RX0, "put", "(I)V"⟩
abbrev cX0_last : ByteArray := prog_2_method_4_code
def yX0_last : MethodName := ⟨RX0, "last", "()I"⟩
abbrev cX0_named : ByteArray := prog_2_method_5_code
def yX0_named : MethodName := ⟨RX0, "named", "(ILIronedOut$Spa;I)I"⟩
abbrev cX0_ofOne : ByteArray := prog_2_method_6_code
def yX0_ofOne : MethodName := ⟨RX0, "ofOne", "(IILIronedOut$Spa;)I"⟩
abbrev cX0_turnedAbout : ByteArray := prog_2_method_7_code
def yX0_turnedAbout : MethodName := ⟨RX0, "turnedAbout", "(I)I"⟩
abbrev cX0_ofTwo : ByteArray := prog_2_method_8_code
def yX0_ofTwo : MethodName := ⟨RX0, "ofTwo", "(III)I"⟩
abbrev cX0_kept : ByteArray := prog_2_method_9_code
def yX0_kept : MethodName := ⟨RX0, "kept", "(J)I"⟩
def RX1 : String := "IronedOut$Finder"
def TX1 : u_T := fun k => match k with
  | 0 => ("IronedOut$Finder", "found", "I", false)
  | 1 => ("IronedOut$Finder", "spa", "LIronedOut$Spa;", false)
  | 2 => ("IronedOut$Finder", "creases", "I", false)
  | 3 => ("IronedOut$Finder", "crease", "[I", true)
  | 4 => ("IronedOut$Finder", "with", "[I", true)
  | _ => ("IronedOut$Finder", "left", "[I", true)
def tyX1 : Nat → FieldType := fun k => match k with
  | 0 => .int
  | 1 => .object "IronedOut$Spa"
  | 2 => .int
  | 3 => .array .int
  | 4 => .array .int
  | _ => .array .int
abbrev wsX10 : List Cond := u_ws RX1 TX1 6
theorem nmX1 : ∀ a, a < 6 → ∀ b, b < 6 → a ≠ b → (TX1 a).2.1 ≠ (TX1 b).2.1 := by decide +kernel
theorem tyX1_ok : ∀ k, k < 6 → parseFieldDescriptor (TX1 k).2.2.1 = some (tyX1 k) := by decide +kernel
abbrev cX1_init : ByteArray := prog_3_method_1_code
def yX1_init : MethodName := ⟨RX1, "<init>", "()V"⟩
abbrev cX1_find : ByteArray := prog_3_method_2_code
def yX1_find : MethodName := ⟨RX1, "find", "(LIronedOut$Spa;I)V"⟩
abbrev cX1_findFrom : ByteArray := prog_3_method_3_code
def yX1_findFrom : MethodName := ⟨RX1, "findFrom", "(LIronedOut$Finder;I)I"⟩
abbrev cX1_nothingLeft : ByteArray := prog_3_method_4_code
def yX1_nothingLeft : MethodName := ⟨RX1, "nothingLeft", "()Z"⟩
abbrev cX1_take : ByteArray := prog_3_method_5_code
def yX1_take : MethodName := ⟨RX1, "take", "(II)Z"⟩
abbrev cX1_sure : ByteArray := prog_3_method_6_code
def yX1_sure : MethodName := ⟨RX1, "sure", "()I"⟩
abbrev cX1_never : ByteArray := prog_3_method_7_code
def yX1_never : MethodName := ⟨RX1, "never", "()I"⟩
abbrev cX1_asked : ByteArray := prog_3_method_8_code
def yX1_asked : MethodName := ⟨RX1, "asked", "()I"⟩
def RX2 : String := "IronedOut$Hands"
def TX2 : u_T := fun k => match k with
  | 0 => ("IronedOut$Hands", "soonest", "I", false)
  | 1 => ("IronedOut$Hands", "best", "[I", true)
  | 2 => ("IronedOut$Hands", "work", "LIronedOut$Told;", false)
  | 3 => ("IronedOut$Hands", "hands", "I", false)
  | 4 => ("IronedOut$Hands", "ends", "[I", true)
  | _ => ("IronedOut$Hands", "laid", "[I", true)
def tyX2 : Nat → FieldType := fun k => match k with
  | 0 => .int
  | 1 => .array .int
  | 2 => .object "IronedOut$Told"
  | 3 => .int
  | 4 => .array .int
  | _ => .array .int
abbrev wsX20 : List Cond := u_ws RX2 TX2 6
theorem nmX2 : ∀ a, a < 6 → ∀ b, b < 6 → a ≠ b → (TX2 a).2.1 ≠ (TX2 b).2.1 := by decide +kernel
theorem tyX2_ok : ∀ k, k < 6 → parseFieldDescriptor (TX2 k).2.2.1 = some (tyX2 k) := by decide +kernel
abbrev cX2_init : ByteArray := prog_4_method_1_code
def yX2_init : MethodName := ⟨RX2, "<init>", "()V"⟩
abbrev cX2_lay : ByteArray := prog_4_method_2_code
def yX2_lay : MethodName := ⟨RX2, "lay", "(LIronedOut$Told;I)V"⟩
abbrev cX2_layFrom : ByteArray := prog_4_method_3_code
def yX2_layFrom : MethodName := ⟨RX2, "layFrom", "(LIronedOut$Hands;III)V"⟩
def RX3 : String := "IronedOut$Moment"
def TX3 : u_T := fun k => match k with
  | 0 => ("IronedOut$Moment", "hour", "I", false)
  | 1 => ("IronedOut$Moment", "x", "I", false)
  | 2 => ("IronedOut$Moment", "persons", "I", false)
  | 3 => ("IronedOut$Moment", "creases", "I", false)
  | 4 => ("IronedOut$Moment", "booked", "I", false)
  | 5 => ("IronedOut$Moment", "coins", "[I", true)
  | 6 => ("IronedOut$Moment", "how", "[I", true)
  | 7 => ("IronedOut$Moment", "depth", "[I", true)
  | _ => ("IronedOut$Moment", "entries", "[I", true)
def tyX3 : Nat → FieldType := fun k => match k with
  | 0 => .int
  | 1 => .int
  | 2 => .int
  | 3 => .int
  | 4 => .int
  | 5 => .array .int
  | 6 => .array .int
  | 7 => .array .int
  | _ => .array .int
abbrev wsX30 : List Cond := u_ws RX3 TX3 9
theorem nmX3 : ∀ a, a < 9 → ∀ b, b < 9 → a ≠ b → (TX3 a).2.1 ≠ (TX3 b).2.1 := by decide +kernel
theorem tyX3_ok : ∀ k, k < 9 → parseFieldDescriptor (TX3 k).2.2.1 = some (tyX3 k) := by decide +kernel
abbrev cX3_init : ByteArray := prog_5_method_1_code
def yX3_init : MethodName := ⟨RX3, "<init>", "()V"⟩
abbrev cX3_copy : ByteArray := prog_5_method_2_code
def yX3_copy : MethodName := ⟨RX3, "copy", "(LIronedOut$Moment;)V"⟩
abbrev cX3_write : ByteArray := prog_5_method_3_code
def yX3_write : MethodName := ⟨RX3, "write", "(II)V"⟩
abbrev cX3_entry : ByteArray := prog_5_method_4_code
def yX3_entry : MethodName := ⟨RX3, "entry", "(II)I"⟩
abbrev cX3_draw : ByteArray := prog_5_method_5_code
def yX3_draw : MethodName := ⟨RX3, "draw", "()I"⟩
def RX4 : String := "IronedOut$Reader"
def TX4 : u_T := fun k => match k with
  | 0 => ("IronedOut$Reader", "length", "I", false)
  | 1 => ("IronedOut$Reader", "fault", "I", false)
  | 2 => ("IronedOut$Reader", "place", "I", false)
  | 3 => ("IronedOut$Reader", "tape", "[I", true)
  | 4 => ("IronedOut$Reader", "text", "LIronedOut$Text;", false)
  | 5 => ("IronedOut$Reader", "at", "I", false)
  | 6 => ("IronedOut$Reader", "start", "I", false)
  | 7 => ("IronedOut$Reader", "token", "I", false)
  | 8 => ("IronedOut$Reader", "value", "I", false)
  | _ => ("IronedOut$Reader", "law", "I", false)
def tyX4 : Nat → FieldType := fun k => match k with
  | 0 => .int
  | 1 => .int
  | 2 => .int
  | 3 => .array .int
  | 4 => .object "IronedOut$Text"
  | 5 => .int
  | 6 => .int
  | 7 => .int
  | 8 => .int
  | _ => .int
abbrev wsX40 : List Cond := u_ws RX4 TX4 10
theorem nmX4 : ∀ a, a < 10 → ∀ b, b < 10 → a ≠ b → (TX4 a).2.1 ≠ (TX4 b).2.1 := by decide +kernel
theorem tyX4_ok : ∀ k, k < 10 → parseFieldDescriptor (TX4 k).2.2.1 = some (tyX4 k) := by decide +kernel
abbrev cX4_init : ByteArray := prog_6_method_1_code
def yX4_init : MethodName := ⟨RX4, "<init>", "()V"⟩
abbrev cX4_hasRoom : ByteArray := prog_6_method_2_code
def yX4_hasRoom : MethodName := ⟨RX4, "hasRoom", "()Z"⟩
abbrev cX4_take : ByteArray := prog_6_method_3_code
def yX4_take : MethodName := ⟨RX4, "take", "(I)I"⟩
abbrev cX4_shorten : ByteArray := prog_6_method_4_code
def yX4_shorten : MethodName := ⟨RX4, "shorten", "(I)I"⟩
abbrev cX4_read : ByteArray := prog_6_method_5_code
def yX4_read : MethodName := ⟨RX4, "read", "(LIronedOut$Text;)Z"⟩
abbrev cX4_refuse : ByteArray := prog_6_method_6_code
def yX4_refuse : MethodName := ⟨RX4, "refuse", "(I)Z"⟩
abbrev cX4_readClause : ByteArray := prog_6_method_7_code
def yX4_readClause : MethodName := ⟨RX4, "readClause", "()Z"⟩
abbrev cX4_readDeed : ByteArray := prog_6_method_8_code
def yX4_readDeed : MethodName := ⟨RX4, "readDeed", "(I)Z"⟩
abbrev cX4_readNumber : ByteArray := prog_6_method_9_code
def yX4_readNumber : MethodName := ⟨RX4, "readNumber", "(III)Z"⟩
abbrev cX4_pass : ByteArray := prog_6_method_10_code
def yX4_pass : MethodName := ⟨RX4, "pass", "(I)Z"⟩
abbrev cX4_passKept : ByteArray := prog_6_method_11_code
def yX4_passKept : MethodName := ⟨RX4, "passKept", "(I)Z"⟩
abbrev cX4_readSum : ByteArray := prog_6_method_12_code
def yX4_readSum : MethodName := ⟨RX4, "readSum", "(I)Z"⟩
abbrev cX4_readProduct : ByteArray := prog_6_method_13_code
def yX4_readProduct : MethodName := ⟨RX4, "readProduct", "(I)Z"⟩
abbrev cX4_readOne : ByteArray := prog_6_method_14_code
def yX4_readOne : MethodName := ⟨RX4, "readOne", "(I)Z"⟩
abbrev cX4_readChanged : ByteArray := prog_6_method_15_code
def yX4_readChanged : MethodName := ⟨RX4, "readChanged", "(II)Z"⟩
abbrev cX4_readLeaf : ByteArray := prog_6_method_16_code
def yX4_readLeaf : MethodName := ⟨RX4, "readLeaf", "(I)Z"⟩
abbrev cX4_readChoice : ByteArray := prog_6_method_17_code
def yX4_readChoice : MethodName := ⟨RX4, "readChoice", "(I)Z"⟩
abbrev cX4_readEither : ByteArray := prog_6_method_18_code
def yX4_readEither : MethodName := ⟨RX4, "readEither", "(I)Z"⟩
abbrev cX4_readBoth : ByteArray := prog_6_method_19_code
def yX4_readBoth : MethodName := ⟨RX4, "readBoth", "(I)Z"⟩
abbrev cX4_readAsk : ByteArray := prog_6_method_20_code
def yX4_readAsk : MethodName := ⟨RX4, "readAsk", "(I)Z"⟩
abbrev cX4_readNot : ByteArray := prog_6_method_21_code
def yX4_readNot : MethodName := ⟨RX4, "readNot", "(I)Z"⟩
abbrev cX4_go : ByteArray := prog_6_method_22_code
def yX4_go : MethodName := ⟨RX4, "go", "()V"⟩
abbrev cX4_isDigit : ByteArray := prog_6_method_23_code
def yX4_isDigit : MethodName := ⟨RX4, "isDigit", "(I)Z"⟩
abbrev cX4_isLetter : ByteArray := prog_6_method_24_code
def yX4_isLetter : MethodName := ⟨RX4, "isLetter", "(I)Z"⟩
abbrev cX4_goNumber : ByteArray := prog_6_method_25_code
def yX4_goNumber : MethodName := ⟨RX4, "goNumber", "()V"⟩
abbrev cX4_goWord : ByteArray := prog_6_method_26_code
def yX4_goWord : MethodName := ⟨RX4, "goWord", "()V"⟩
abbrev cX4_goSign : ByteArray := prog_6_method_27_code
def yX4_goSign : MethodName := ⟨RX4, "goSign", "()V"⟩
def RX5 : String := "IronedOut$Reckoner"
def TX5 : u_T := fun k => match k with
  | 0 => ("IronedOut$Reckoner", "near", "[I", true)
  | _ => ("IronedOut$Reckoner", "has", "[I", true)
def tyX5 : Nat → FieldType := fun k => match k with
  | 0 => .array .int
  | _ => .array .int
abbrev wsX50 : List Cond := u_ws RX5 TX5 2
theorem nmX5 : ∀ a, a < 2 → ∀ b, b < 2 → a ≠ b → (TX5 a).2.1 ≠ (TX5 b).2.1 := by decide +kernel
theorem tyX5_ok : ∀ k, k < 2 → parseFieldDescriptor (TX5 k).2.2.1 = some (tyX5 k) := by decide +kernel
abbrev cX5_init : ByteArray := prog_7_method_1_code
def yX5_init : MethodName := ⟨RX5, "<init>", "()V"⟩
abbrev cX5_depthBehind : ByteArray := prog_7_method_2_code
def yX5_depthBehind : MethodName := ⟨RX5, "depthBehind", "(LIronedOut$Spa;II)I"⟩
abbrev cX5_setToPress : ByteArray := prog_7_method_3_code
def yX5_setToPress : MethodName := ⟨RX5, "setToPress", "(LIronedOut$Spa;)I"⟩
abbrev cX5_wantedTo : ByteArray := prog_7_method_4_code
def yX5_wantedTo : MethodName := ⟨RX5, "wantedTo", "(LIronedOut$Spa;I)I"⟩
abbrev cX5_isWhole : ByteArray := prog_7_method_5_code
def yX5_isWhole : MethodName := ⟨RX5, "isWhole", "(LIronedOut$Spa;II)Z"⟩
abbrev cX5_flattest : ByteArray := prog_7_method_6_code
def yX5_flattest : MethodName := ⟨RX5, "flattest", "(LIronedOut$Spa;III)I"⟩
abbrev cX5_within : ByteArray := prog_7_method_7_code
def yX5_within : MethodName := ⟨RX5, "within", "(LIronedOut$Spa;II)I"⟩
abbrev cX5_isFlat : ByteArray := prog_7_method_8_code
def yX5_isFlat : MethodName := ⟨RX5, "isFlat", "(LIronedOut$Spa;II)Z"⟩
abbrev cX5_longestSpan : ByteArray := prog_7_method_9_code
def yX5_longestSpan : MethodName := ⟨RX5, "longestSpan", "(LIronedOut$Spa;I)I"⟩
abbrev cX5_wholeLaughs : ByteArray := prog_7_method_10_code
def yX5_wholeLaughs : MethodName := ⟨RX5, "wholeLaughs", "(LIronedOut$Told;II)I"⟩
abbrev cX5_laughsByTurns : ByteArray := prog_7_method_11_code
def yX5_laughsByTurns : MethodName := ⟨RX5, "laughsByTurns", "(LIronedOut$Told;II)I"⟩
abbrev cX5_bestPrice : ByteArray := prog_7_method_12_code
def yX5_bestPrice : MethodName := ⟨RX5, "bestPrice", "(LIronedOut$Told;)I"⟩
abbrev cX5_takings : ByteArray := prog_7_method_13_code
def yX5_takings : MethodName := ⟨RX5, "takings", "(LIronedOut$Told;I)I"⟩
abbrev cX5_wrongWays : ByteArray := prog_7_method_14_code
def yX5_wrongWays : MethodName := ⟨RX5, "wrongWays", "(III)J"⟩
abbrev cX5_power : ByteArray := prog_7_method_15_code
def yX5_power : MethodName := ⟨RX5, "power", "(JI)J"⟩
abbrev cX5_commonPart : ByteArray := prog_7_method_16_code
def yX5_commonPart : MethodName := ⟨RX5, "commonPart", "(JJ)J"⟩
abbrev cX5_eldestThere : ByteArray := prog_7_method_17_code
def yX5_eldestThere : MethodName := ⟨RX5, "eldestThere", "(LIronedOut$Spa;I)I"⟩
abbrev cX5_tensOfYears : ByteArray := prog_7_method_18_code
def yX5_tensOfYears : MethodName := ⟨RX5, "tensOfYears", "(LIronedOut$Spa;I)I"⟩
def RX6 : String := "IronedOut$Spa"
def TX6 : u_T := fun k => match k with
  | 0 => ("IronedOut$Spa", "heat", "I", false)
  | 1 => ("IronedOut$Spa", "texts", "I", false)
  | 2 => ("IronedOut$Spa", "ruling", "I", false)
  | 3 => ("IronedOut$Spa", "now", "LIronedOut$Moment;", true)
  | 4 => ("IronedOut$Spa", "steps", "LIronedOut$Steps;", true)
  | 5 => ("IronedOut$Spa", "skin", "[I", true)
  | 6 => ("IronedOut$Spa", "coinsTold", "[I", true)
  | 7 => ("IronedOut$Spa", "owner", "[I", true)
  | 8 => ("IronedOut$Spa", "year", "[I", true)
  | 9 => ("IronedOut$Spa", "depthTold", "[I", true)
  | 10 => ("IronedOut$Spa", "worth", "[I", true)
  | 11 => ("IronedOut$Spa", "hangsOn", "[I", true)
  | 12 => ("IronedOut$Spa", "hanging", "[I", true)
  | 13 => ("IronedOut$Spa", "wanted", "LIronedOut$Told;", true)
  | 14 => ("IronedOut$Spa", "work", "LIronedOut$Told;", true)
  | 15 => ("IronedOut$Spa", "seams", "LIronedOut$Told;", true)
  | 16 => ("IronedOut$Spa", "nephews", "LIronedOut$Told;", true)
  | 17 => ("IronedOut$Spa", "offers", "LIronedOut$Told;", true)
  | 18 => ("IronedOut$Spa", "paid", "LIronedOut$Told;", true)
  | 19 => ("IronedOut$Spa", "written", "[LIronedOut$Text;", true)
  | _ => ("IronedOut$Spa", "asker", "LIronedOut$Asker;", true)
def tyX6 : Nat → FieldType := fun k => match k with
  | 0 => .int
  | 1 => .int
  | 2 => .int
  | 3 => .object "IronedOut$Moment"
  | 4 => .object "IronedOut$Steps"
  | 5 => .array .int
  | 6 => .array .int
  | 7 => .array .int
  | 8 => .array .int
  | 9 => .array .int
  | 10 => .array .int
  | 11 => .array .int
  | 12 => .array .int
  | 13 => .object "IronedOut$Told"
  | 14 => .object "IronedOut$Told"
  | 15 => .object "IronedOut$Told"
  | 16 => .object "IronedOut$Told"
  | 17 => .object "IronedOut$Told"
  | 18 => .object "IronedOut$Told"
  | 19 => .array (.object "IronedOut$Text")
  | _ => .object "IronedOut$Asker"
abbrev wsX60 : List Cond := u_ws RX6 TX6 21
theorem nmX6 : ∀ a, a < 21 → ∀ b, b < 21 → a ≠ b → (TX6 a).2.1 ≠ (TX6 b).2.1 := by decide +kernel
theorem tyX6_ok : ∀ k, k < 21 → parseFieldDescriptor (TX6 k).2.2.1 = some (tyX6 k) := by decide +kernel
abbrev cX6_init : ByteArray := prog_8_method_1_code
def yX6_init : MethodName := ⟨RX6, "<init>", "([LIronedOut$Text;LIronedOut$Asker;)V"⟩
abbrev cX6_copy : ByteArray := prog_8_method_2_code
def yX6_copy : MethodName := ⟨RX6, "copy", "(LIronedOut$Spa;)V"⟩
abbrev cX6_isPerson : ByteArray := prog_8_method_3_code
def yX6_isPerson : MethodName := ⟨RX6, "isPerson", "(I)Z"⟩
abbrev cX6_isCrease : ByteArray := prog_8_method_4_code
def yX6_isCrease : MethodName := ⟨RX6, "isCrease", "(I)Z"⟩
abbrev cX6_isThere : ByteArray := prog_8_method_5_code
def yX6_isThere : MethodName := ⟨RX6, "isThere", "(I)Z"⟩
abbrev cX6_tellPerson : ByteArray := prog_8_method_6_code
def yX6_tellPerson : MethodName := ⟨RX6, "tellPerson", "(II)I"⟩
abbrev cX6_tellCrease : ByteArray := prog_8_method_7_code
def yX6_tellCrease : MethodName := ⟨RX6, "tellCrease", "(IIII)I"⟩
abbrev cX6_setAsTold : ByteArray := prog_8_method_8_code
def yX6_setAsTold : MethodName := ⟨RX6, "setAsTold", "(I)V"⟩
abbrev cX6_tellTie : ByteArray := prog_8_method_9_code
def yX6_tellTie : MethodName := ⟨RX6, "tellTie", "(II)Z"⟩
abbrev cX6_tellHeat : ByteArray := prog_8_method_10_code
def yX6_tellHeat : MethodName := ⟨RX6, "tellHeat", "(I)Z"⟩
abbrev cX6_pressStep : ByteArray := prog_8_method_11_code
def yX6_pressStep : MethodName := ⟨RX6, "pressStep", "(I)Z"⟩
abbrev cX6_pressOne : ByteArray := prog_8_method_12_code
def yX6_pressOne : MethodName := ⟨RX6, "pressOne", "(I)V"⟩
abbrev cX6_goWithHanging : ByteArray := prog_8_method_13_code
def yX6_goWithHanging : MethodName := ⟨RX6, "goWithHanging", "(I)V"⟩
abbrev cX6_goOne : ByteArray := prog_8_method_14_code
def yX6_goOne : MethodName := ⟨RX6, "goOne", "(I)V"⟩
abbrev cX6_mayComeBack : ByteArray := prog_8_method_15_code
def yX6_mayComeBack : MethodName := ⟨RX6, "mayComeBack", "(I)Z"⟩
abbrev cX6_comeBack : ByteArray := prog_8_method_16_code
def yX6_comeBack : MethodName := ⟨RX6, "comeBack", "(II)V"⟩
abbrev cX6_patternStep : ByteArray := prog_8_method_17_code
def yX6_patternStep : MethodName := ⟨RX6, "patternStep", "(I)Z"⟩
abbrev cX6_dampStep : ByteArray := prog_8_method_18_code
def yX6_dampStep : MethodName := ⟨RX6, "dampStep", "(I)I"⟩
abbrev cX6_dampen : ByteArray := prog_8_method_19_code
def yX6_dampen : MethodName := ⟨RX6, "dampen", "(I)I"⟩
abbrev cX6_hourSteps : ByteArray := prog_8_method_20_code
def yX6_hourSteps : MethodName := ⟨RX6, "hourSteps", "(I)I"⟩
abbrev cX6_passHour : ByteArray := prog_8_method_21_code
def yX6_passHour : MethodName := ⟨RX6, "passHour", "()V"⟩
abbrev cX6_seasonStep : ByteArray := prog_8_method_22_code
def yX6_seasonStep : MethodName := ⟨RX6, "seasonStep", "(II)I"⟩
abbrev cX6_passSeason : ByteArray := prog_8_method_23_code
def yX6_passSeason : MethodName := ⟨RX6, "passSeason", "()V"⟩
abbrev cX6_takeBack : ByteArray := prog_8_method_24_code
def yX6_takeBack : MethodName := ⟨RX6, "takeBack", "()I"⟩
abbrev cX6_creasesOf : ByteArray := prog_8_method_25_code
def yX6_creasesOf : MethodName := ⟨RX6, "creasesOf", "(I)I"⟩
abbrev cX6_allThere : ByteArray := prog_8_method_26_code
def yX6_allThere : MethodName := ⟨RX6, "allThere", "()I"⟩
abbrev cX6_worthOf : ByteArray := prog_8_method_27_code
def yX6_worthOf : MethodName := ⟨RX6, "worthOf", "(I)I"⟩
abbrev cX6_byLaw : ByteArray := prog_8_method_28_code
def yX6_byLaw : MethodName := ⟨RX6, "byLaw", "(III)I"⟩
abbrev cX6_withoutLaw : ByteArray := prog_8_method_29_code
def yX6_withoutLaw : MethodName := ⟨RX6, "withoutLaw", "(II)I"⟩
abbrev cX6_isPaidBy : ByteArray := prog_8_method_30_code
def yX6_isPaidBy : MethodName := ⟨RX6, "isPaidBy", "(I)Z"⟩
def RX7 : String := "IronedOut$Steps"
def TX7 : u_T := fun k => match k with
  | 0 => ("IronedOut$Steps", "count", "I", false)
  | 1 => ("IronedOut$Steps", "first", "I", false)
  | _ => ("IronedOut$Steps", "ahead", "[LIronedOut$Moment;", true)
def tyX7 : Nat → FieldType := fun k => match k with
  | 0 => .int
  | 1 => .int
  | _ => .array (.object "IronedOut$Moment")
abbrev wsX70 : List Cond := u_ws RX7 TX7 3
theorem nmX7 : ∀ a, a < 3 → ∀ b, b < 3 → a ≠ b → (TX7 a).2.1 ≠ (TX7 b).2.1 := by decide +kernel
theorem tyX7_ok : ∀ k, k < 3 → parseFieldDescriptor (TX7 k).2.2.1 = some (tyX7 k) := by decide +kernel
abbrev cX7_init : ByteArray := prog_9_method_1_code
def yX7_init : MethodName := ⟨RX7, "<init>", "()V"⟩
abbrev cX7_keep : ByteArray := prog_9_method_2_code
def yX7_keep : MethodName := ⟨RX7, "keep", "(LIronedOut$Moment;)V"⟩
abbrev cX7_kept : ByteArray := prog_9_method_3_code
def yX7_kept : MethodName := ⟨RX7, "kept", "(I)LIronedOut$Moment;"⟩
abbrev cX7_copy : ByteArray := prog_9_method_4_code
def yX7_copy : MethodName := ⟨RX7, "copy", "(LIronedOut$Steps;)V"⟩
def RX8 : String := "IronedOut$Text"
def TX8 : u_T := fun k => match k with
  | 0 => ("IronedOut$Text", "clauses", "I", false)
  | 1 => ("IronedOut$Text", "length", "I", false)
  | 2 => ("IronedOut$Text", "laws", "[I", true)
  | 3 => ("IronedOut$Text", "code", "[I", true)
  | 4 => ("IronedOut$Text", "kinds", "[I", true)
  | _ => ("IronedOut$Text", "numbers", "[[I", true)
def tyX8 : Nat → FieldType := fun k => match k with
  | 0 => .int
  | 1 => .int
  | 2 => .array .int
  | 3 => .array .int
  | 4 => .array .int
  | _ => .array (.array .int)
abbrev wsX80 : List Cond := u_ws RX8 TX8 6
theorem nmX8 : ∀ a, a < 6 → ∀ b, b < 6 → a ≠ b → (TX8 a).2.1 ≠ (TX8 b).2.1 := by decide +kernel
theorem tyX8_ok : ∀ k, k < 6 → parseFieldDescriptor (TX8 k).2.2.1 = some (tyX8 k) := by decide +kernel
abbrev cX8_init : ByteArray := prog_10_method_1_code
def yX8_init : MethodName := ⟨RX8, "<init>", "()V"⟩
abbrev cX8_empty : ByteArray := prog_10_method_2_code
def yX8_empty : MethodName := ⟨RX8, "empty", "()V"⟩
abbrev cX8_begin : ByteArray := prog_10_method_3_code
def yX8_begin : MethodName := ⟨RX8, "begin", "(I)V"⟩
abbrev cX8_kind : ByteArray := prog_10_method_4_code
def yX8_kind : MethodName := ⟨RX8, "kind", "(I)I"⟩
abbrev cX8_told : ByteArray := prog_10_method_5_code
def yX8_told : MethodName := ⟨RX8, "told", "(II)I"⟩
abbrev cX8_tell : ByteArray := prog_10_method_6_code
def yX8_tell : MethodName := ⟨RX8, "tell", "(II)V"⟩
abbrev cX8_add : ByteArray := prog_10_method_7_code
def yX8_add : MethodName := ⟨RX8, "add", "(II)V"⟩
abbrev cX8_aim : ByteArray := prog_10_method_8_code
def yX8_aim : MethodName := ⟨RX8, "aim", "(I)V"⟩
def RX9 : String := "IronedOut$Told"
def TX9 : u_T := fun k => match k with
  | 0 => ("IronedOut$Told", "count", "I", false)
  | 1 => ("IronedOut$Told", "first", "[I", true)
  | 2 => ("IronedOut$Told", "second", "[I", true)
  | _ => ("IronedOut$Told", "third", "[I", true)
def tyX9 : Nat → FieldType := fun k => match k with
  | 0 => .int
  | 1 => .array .int
  | 2 => .array .int
  | _ => .array .int
abbrev wsX90 : List Cond := u_ws RX9 TX9 4
theorem nmX9 : ∀ a, a < 4 → ∀ b, b < 4 → a ≠ b → (TX9 a).2.1 ≠ (TX9 b).2.1 := by decide +kernel
theorem tyX9_ok : ∀ k, k < 4 → parseFieldDescriptor (TX9 k).2.2.1 = some (tyX9 k) := by decide +kernel
abbrev cX9_init : ByteArray := prog_11_method_1_code
def yX9_init : MethodName := ⟨RX9, "<init>", "(I)V"⟩
abbrev cX9_empty : ByteArray := prog_11_method_2_code
def yX9_empty : MethodName := ⟨RX9, "empty", "()I"⟩
abbrev cX9_add : ByteArray := prog_11_method_3_code
def yX9_add : MethodName := ⟨RX9, "add", "(III)I"⟩
abbrev cX9_copy : ByteArray := prog_11_method_4_code
def yX9_copy : MethodName := ⟨RX9, "copy", "(LIronedOut$Told;)V"⟩
def RX10 : String := "IronedOut"
def TX10 : u_T := fun k => match k with
  | 0 => ("IronedOut", "texts", "[LIronedOut$Text;", true)
  | 1 => ("IronedOut", "spa", "LIronedOut$Spa;", true)
  | 2 => ("IronedOut", "kept", "LIronedOut$Spa;", true)
  | 3 => ("IronedOut", "reader", "LIronedOut$Reader;", true)
  | 4 => ("IronedOut", "handsLaid", "LIronedOut$Hands;", true)
  | 5 => ("IronedOut", "finder", "LIronedOut$Finder;", true)
  | _ => ("IronedOut", "reckoner", "LIronedOut$Reckoner;", true)
def tyX10 : Nat → FieldType := fun k => match k with
  | 0 => .array (.object "IronedOut$Text")
  | 1 => .object "IronedOut$Spa"
  | 2 => .object "IronedOut$Spa"
  | 3 => .object "IronedOut$Reader"
  | 4 => .object "IronedOut$Hands"
  | 5 => .object "IronedOut$Finder"
  | _ => .object "IronedOut$Reckoner"
abbrev wsX100 : List Cond := u_ws RX10 TX10 7
theorem nmX10 : ∀ a, a < 7 → ∀ b, b < 7 → a ≠ b → (TX10 a).2.1 ≠ (TX10 b).2.1 := by decide +kernel
theorem tyX10_ok : ∀ k, k < 7 → parseFieldDescriptor (TX10 k).2.2.1 = some (tyX10 k) := by decide +kernel
abbrev cX10_init : ByteArray := prog_1_method_1_code
def yX10_init : MethodName := ⟨RX10, "<init>", "()V"⟩
abbrev cX10_person : ByteArray := prog_1_method_2_code
def yX10_person : MethodName := ⟨RX10, "person", "(II)I"⟩
abbrev cX10_crease : ByteArray := prog_1_method_3_code
def yX10_crease : MethodName := ⟨RX10, "crease", "(IIII)I"⟩
abbrev cX10_tie : ByteArray := prog_1_method_4_code
def yX10_tie : MethodName := ⟨RX10, "tie", "(II)Z"⟩
abbrev cX10_heat : ByteArray := prog_1_method_5_code
def yX10_heat : MethodName := ⟨RX10, "heat", "(I)Z"⟩
abbrev cX10_feed : ByteArray := prog_1_method_6_code
def yX10_feed : MethodName := ⟨RX10, "feed", "(IIIII)I"⟩
abbrev cX10_end : ByteArray := prog_1_method_7_code
def yX10_end : MethodName := ⟨RX10, "end", "(I)I"⟩
abbrev cX10_text : ByteArray := prog_1_method_8_code
def yX10_text : MethodName := ⟨RX10, "text", "()I"⟩
abbrev cX10_fault : ByteArray := prog_1_method_9_code
def yX10_fault : MethodName := ⟨RX10, "fault", "(I)I"⟩
abbrev cX10_by : ByteArray := prog_1_method_10_code
def yX10_by : MethodName := ⟨RX10, "by", "(I)Z"⟩
abbrev cX10_press : ByteArray := prog_1_method_11_code
def yX10_press : MethodName := ⟨RX10, "press", "(I)I"⟩
abbrev cX10_pattern : ByteArray := prog_1_method_12_code
def yX10_pattern : MethodName := ⟨RX10, "pattern", "(I)Z"⟩
abbrev cX10_damp : ByteArray := prog_1_method_13_code
def yX10_damp : MethodName := ⟨RX10, "damp", "(I)I"⟩
abbrev cX10_hour : ByteArray := prog_1_method_14_code
def yX10_hour : MethodName := ⟨RX10, "hour", "(I)I"⟩
abbrev cX10_played : ByteArray := prog_1_method_15_code
def yX10_played : MethodName := ⟨RX10, "played", "(I)I"⟩
abbrev cX10_clauseDone : ByteArray := prog_1_method_16_code
def yX10_clauseDone : MethodName := ⟨RX10, "clauseDone", "(LIronedOut$Text;I)Z"⟩
abbrev cX10_seasons : ByteArray := prog_1_method_17_code
def yX10_seasons : MethodName := ⟨RX10, "seasons", "(II)I"⟩
abbrev cX10_undo : ByteArray := prog_1_method_18_code
def yX10_undo : MethodName := ⟨RX10, "undo", "()I"⟩
abbrev cX10_of : ByteArray := prog_1_method_19_code
def yX10_of : MethodName := ⟨RX10, "of", "(II)I"⟩
abbrev cX10_ofCrease : ByteArray := prog_1_method_20_code
def yX10_ofCrease : MethodName := ⟨RX10, "ofCrease", "(II)I"⟩
abbrev cX10_is : ByteArray := prog_1_method_21_code
def yX10_is : MethodName := ⟨RX10, "is", "(I)I"⟩
abbrev cX10_book : ByteArray := prog_1_method_22_code
def yX10_book : MethodName := ⟨RX10, "book", "(II)I"⟩
abbrev cX10_hanging : ByteArray := prog_1_method_23_code
def yX10_hanging : MethodName := ⟨RX10, "hanging", "(I)I"⟩
abbrev cX10_foretold : ByteArray := prog_1_method_24_code
def yX10_foretold : MethodName := ⟨RX10, "foretold", "(II)I"⟩
abbrev cX10_want : ByteArray := prog_1_method_25_code
def yX10_want : MethodName := ⟨RX10, "want", "(II)I"⟩
abbrev cX10_cut : ByteArray := prog_1_method_26_code
def yX10_cut : MethodName := ⟨RX10, "cut", "(Z)I"⟩
abbrev cX10_board : ByteArray := prog_1_method_27_code
def yX10_board : MethodName := ⟨RX10, "board", "(I)I"⟩
abbrev cX10_hands : ByteArray := prog_1_method_28_code
def yX10_hands : MethodName := ⟨RX10, "hands", "(II)I"⟩
abbrev cX10_flat : ByteArray := prog_1_method_29_code
def yX10_flat : MethodName := ⟨RX10, "flat", "(III)I"⟩
abbrev cX10_seam : ByteArray := prog_1_method_30_code
def yX10_seam : MethodName := ⟨RX10, "seam", "(III)I"⟩
abbrev cX10_sets : ByteArray := prog_1_method_31_code
def yX10_sets : MethodName := ⟨RX10, "sets", "(II)I"⟩
abbrev cX10_next : ByteArray := prog_1_method_32_code
def yX10_next : MethodName := ⟨RX10, "next", "(I)I"⟩
abbrev cX10_heir : ByteArray := prog_1_method_33_code
def yX10_heir : MethodName := ⟨RX10, "heir", "(I)I"⟩
abbrev cX10_laughs : ByteArray := prog_1_method_34_code
def yX10_laughs : MethodName := ⟨RX10, "laughs", "(IZI)I"⟩
abbrev cX10_offer : ByteArray := prog_1_method_35_code
def yX10_offer : MethodName := ⟨RX10, "offer", "(I)I"⟩
abbrev cX10_price : ByteArray := prog_1_method_36_code
def yX10_price : MethodName := ⟨RX10, "price", "(Z)I"⟩
abbrev cX10_wrongly : ByteArray := prog_1_method_37_code
def yX10_wrongly : MethodName := ⟨RX10, "wrongly", "(IIIIZ)J"⟩
abbrev cX10_priced : ByteArray := prog_1_method_38_code
def yX10_priced : MethodName := ⟨RX10, "priced", "(II)I"⟩
abbrev cX10_whose : ByteArray := prog_1_method_39_code
def yX10_whose : MethodName := ⟨RX10, "whose", "()I"⟩
abbrev cX10_befell : ByteArray := prog_1_method_40_code
def yX10_befell : MethodName := ⟨RX10, "befell", "(II)I"⟩
abbrev cX10_eldest : ByteArray := prog_1_method_41_code
def yX10_eldest : MethodName := ⟨RX10, "eldest", "(I)I"⟩
abbrev cX10_blank : ByteArray := prog_1_method_42_code
def yX10_blank : MethodName := ⟨RX10, "blank", "()I"⟩
abbrev cX10_shared : ByteArray := prog_1_method_43_code
def yX10_shared : MethodName := ⟨RX10, "shared", "(II)I"⟩
abbrev cX10_image : ByteArray := prog_1_method_44_code
def yX10_image : MethodName := ⟨RX10, "image", "()I"⟩
abbrev cX10_back : ByteArray := prog_1_method_45_code
def yX10_back : MethodName := ⟨RX10, "back", "()I"⟩
abbrev cX10_about : ByteArray := prog_1_method_46_code
def yX10_about : MethodName := ⟨RX10, "about", "(I)I"⟩
def RX11 : String := "IronedOutModel"
def TX11 : u_T := fun k => match k with
  | 0 => ("IronedOutModel", "a", "[I", true)
  | 1 => ("IronedOutModel", "image", "[I", true)
  | 2 => ("IronedOutModel", "texts", "[I", true)
  | 3 => ("IronedOutModel", "tape", "[I", true)
  | 4 => ("IronedOutModel", "taped", "I", false)
  | 5 => ("IronedOutModel", "fault", "I", false)
  | 6 => ("IronedOutModel", "faultPlace", "I", false)
  | 7 => ("IronedOutModel", "at", "I", false)
  | 8 => ("IronedOutModel", "place", "I", false)
  | 9 => ("IronedOutModel", "token", "I", false)
  | 10 => ("IronedOutModel", "number", "I", false)
  | 11 => ("IronedOutModel", "word", "J", false)
  | 12 => ("IronedOutModel", "text0", "I", false)
  | 13 => ("IronedOutModel", "written", "I", false)
  | 14 => ("IronedOutModel", "sort0", "I", false)
  | 15 => ("IronedOutModel", "pile", "[I", true)
  | 16 => ("IronedOutModel", "piled", "I", false)
  | 17 => ("IronedOutModel", "opens", "I", false)
  | 18 => ("IronedOutModel", "isWhole", "Z", false)
  | 19 => ("IronedOutModel", "once", "I", false)
  | 20 => ("IronedOutModel", "named", "[I", true)
  | 21 => ("IronedOutModel", "values", "[J", true)
  | 22 => ("IronedOutModel", "truth", "[Z", true)
  | 23 => ("IronedOutModel", "load", "[I", true)
  | 24 => ("IronedOutModel", "handOf", "[I", true)
  | 25 => ("IronedOutModel", "found", "I", false)
  | 26 => ("IronedOutModel", "with", "[I", true)
  | 27 => ("IronedOutModel", "had", "[I", true)
  | _ => ("IronedOutModel", "extra", "[I", true)
def tyX11 : Nat → FieldType := fun k => match k with
  | 0 => .array .int
  | 1 => .array .int
  | 2 => .array .int
  | 3 => .array .int
  | 4 => .int
  | 5 => .int
  | 6 => .int
  | 7 => .int
  | 8 => .int
  | 9 => .int
  | 10 => .int
  | 11 => .long
  | 12 => .int
  | 13 => .int
  | 14 => .int
  | 15 => .array .int
  | 16 => .int
  | 17 => .int
  | 18 => .boolean
  | 19 => .int
  | 20 => .array .int
  | 21 => .array .long
  | 22 => .array .boolean
  | 23 => .array .int
  | 24 => .array .int
  | 25 => .int
  | 26 => .array .int
  | 27 => .array .int
  | _ => .array .int
abbrev wsX110 : List Cond := u_ws RX11 TX11 29
theorem nmX11 : ∀ a, a < 29 → ∀ b, b < 29 → a ≠ b → (TX11 a).2.1 ≠ (TX11 b).2.1 := by decide +kernel
theorem tyX11_ok : ∀ k, k < 29 → parseFieldDescriptor (TX11 k).2.2.1 = some (tyX11 k) := by decide +kernel
abbrev cX11_init : ByteArray := prog_13_method_1_code
def yX11_init : MethodName := ⟨RX11, "<init>", "()V"⟩
abbrev cX11_copy : ByteArray := prog_13_method_2_code
def yX11_copy : MethodName := ⟨RX11, "copy", "([I[I)V"⟩
abbrev cX11_isIn : ByteArray := prog_13_method_3_code
def yX11_isIn : MethodName := ⟨RX11, "isIn", "(III)Z"⟩
abbrev cX11_held : ByteArray := prog_13_method_4_code
def yX11_held : MethodName := ⟨RX11, "held", "(JII)I"⟩
abbrev cX11_has : ByteArray := prog_13_method_5_code
def yX11_has : MethodName := ⟨RX11, "has", "(II)Z"⟩
abbrev cX11_bits : ByteArray := prog_13_method_6_code
def yX11_bits : MethodName := ⟨RX11, "bits", "(I)I"⟩
abbrev cX11_isPerson : ByteArray := prog_13_method_7_code
def yX11_isPerson : MethodName := ⟨RX11, "isPerson", "(I)Z"⟩
abbrev cX11_isCrease : ByteArray := prog_13_method_8_code
def yX11_isCrease : MethodName := ⟨RX11, "isCrease", "(I)Z"⟩
abbrev cX11_get : ByteArray := prog_13_method_9_code
def yX11_get : MethodName := ⟨RX11, "get", "(II)I"⟩
abbrev cX11_put : ByteArray := prog_13_method_10_code
def yX11_put : MethodName := ⟨RX11, "put", "(III)V"⟩
abbrev cX11_own : ByteArray := prog_13_method_11_code
def yX11_own : MethodName := ⟨RX11, "own", "(II)I"⟩
abbrev cX11_isThere : ByteArray := prog_13_method_12_code
def yX11_isThere : MethodName := ⟨RX11, "isThere", "(I)Z"⟩
abbrev cX11_there : ByteArray := prog_13_method_13_code
def yX11_there : MethodName := ⟨RX11, "there", "()I"⟩
abbrev cX11_ownedBy : ByteArray := prog_13_method_14_code
def yX11_ownedBy : MethodName := ⟨RX11, "ownedBy", "(I)I"⟩
abbrev cX11_hangingOn : ByteArray := prog_13_method_15_code
def yX11_hangingOn : MethodName := ⟨RX11, "hangingOn", "(I)I"⟩
abbrev cX11_person : ByteArray := prog_13_method_16_code
def yX11_person : MethodName := ⟨RX11, "person", "(II)I"⟩
abbrev cX11_crease : ByteArray := prog_13_method_17_code
def yX11_crease : MethodName := ⟨RX11, "crease", "(IIII)I"⟩
abbrev cX11_tie : ByteArray := prog_13_method_18_code
def yX11_tie : MethodName := ⟨RX11, "tie", "(II)Z"⟩
abbrev cX11_heat : ByteArray := prog_13_method_19_code
def yX11_heat : MethodName := ⟨RX11, "heat", "(I)Z"⟩
abbrev cX11_four : ByteArray := prog_13_method_20_code
def yX11_four : MethodName := ⟨RX11, "four", "(I)V"⟩
abbrev cX11_feed : ByteArray := prog_13_method_21_code
def yX11_feed : MethodName := ⟨RX11, "feed", "(IIIII)I"⟩
abbrev cX11_end : ByteArray := prog_13_method_22_code
def yX11_end : MethodName := ⟨RX11, "end", "(I)I"⟩
abbrev cX11_byteAt : ByteArray := prog_13_method_23_code
def yX11_byteAt : MethodName := ⟨RX11, "byteAt", "(I)I"⟩
abbrev cX11_isLetterByte : ByteArray := prog_13_method_24_code
def yX11_isLetterByte : MethodName := ⟨RX11, "isLetterByte", "(I)Z"⟩
abbrev cX11_isFigure : ByteArray := prog_13_method_25_code
def yX11_isFigure : MethodName := ⟨RX11, "isFigure", "(I)Z"⟩
abbrev cX11_isSign : ByteArray := prog_13_method_26_code
def yX11_isSign : MethodName := ⟨RX11, "isSign", "(I)Z"⟩
abbrev cX11_nextToken : ByteArray := prog_13_method_27_code
def yX11_nextToken : MethodName := ⟨RX11, "nextToken", "()V"⟩
abbrev cX11_w2 : ByteArray := prog_13_method_28_code
def yX11_w2 : MethodName := ⟨RX11, "w2", "(II)J"⟩
abbrev cX11_w3 : ByteArray := prog_13_method_29_code
def yX11_w3 : MethodName := ⟨RX11, "w3", "(III)J"⟩
abbrev cX11_w4 : ByteArray := prog_13_method_30_code
def yX11_w4 : MethodName := ⟨RX11, "w4", "(IIII)J"⟩
abbrev cX11_w5 : ByteArray := prog_13_method_31_code
def yX11_w5 : MethodName := ⟨RX11, "w5", "(IIIII)J"⟩
abbrev cX11_w6 : ByteArray := prog_13_method_32_code
def yX11_w6 : MethodName := ⟨RX11, "w6", "(IIIIII)J"⟩
abbrev cX11_isWord : ByteArray := prog_13_method_33_code
def yX11_isWord : MethodName := ⟨RX11, "isWord", "(J)Z"⟩
abbrev cX11_emit : ByteArray := prog_13_method_34_code
def yX11_emit : MethodName := ⟨RX11, "emit", "(II)V"⟩
abbrev cX11_isLong : ByteArray := prog_13_method_35_code
def yX11_isLong : MethodName := ⟨RX11, "isLong", "(JJI)Z"⟩
abbrev cX11_nameOf : ByteArray := prog_13_method_36_code
def yX11_nameOf : MethodName := ⟨RX11, "nameOf", "()I"⟩
abbrev cX11_isOf : ByteArray := prog_13_method_37_code
def yX11_isOf : MethodName := ⟨RX11, "isOf", "(I)Z"⟩
abbrev cX11_rank : ByteArray := prog_13_method_38_code
def yX11_rank : MethodName := ⟨RX11, "rank", "(I)I"⟩
abbrev cX11_settle : ByteArray := prog_13_method_39_code
def yX11_settle : MethodName := ⟨RX11, "settle", "(I)V"⟩
abbrev cX11_openAt : ByteArray := prog_13_method_40_code
def yX11_openAt : MethodName := ⟨RX11, "openAt", "()I"⟩
abbrev cX11_openNow : ByteArray := prog_13_method_41_code
def yX11_openNow : MethodName := ⟨RX11, "openNow", "()I"⟩
abbrev cX11_isCompared : ByteArray := prog_13_method_42_code
def yX11_isCompared : MethodName := ⟨RX11, "isCompared", "()Z"⟩
abbrev cX11_isAskAhead : ByteArray := prog_13_method_43_code
def yX11_isAskAhead : MethodName := ⟨RX11, "isAskAhead", "()Z"⟩
abbrev cX11_opened : ByteArray := prog_13_method_44_code
def yX11_opened : MethodName := ⟨RX11, "opened", "(I)I"⟩
abbrev cX11_beginOne : ByteArray := prog_13_method_45_code
def yX11_beginOne : MethodName := ⟨RX11, "beginOne", "()I"⟩
abbrev cX11_compareOf : ByteArray := prog_13_method_46_code
def yX11_compareOf : MethodName := ⟨RX11, "compareOf", "()I"⟩
abbrev cX11_betweenOf : ByteArray := prog_13_method_47_code
def yX11_betweenOf : MethodName := ⟨RX11, "betweenOf", "()I"⟩
abbrev cX11_partOf : ByteArray := prog_13_method_48_code
def yX11_partOf : MethodName := ⟨RX11, "partOf", "(I)I"⟩
abbrev cX11_behindOne : ByteArray := prog_13_method_49_code
def yX11_behindOne : MethodName := ⟨RX11, "behindOne", "()Z"⟩
abbrev cX11_summed : ByteArray := prog_13_method_50_code
def yX11_summed : MethodName := ⟨RX11, "summed", "()I"⟩
abbrev cX11_figure : ByteArray := prog_13_method_51_code
def yX11_figure : MethodName := ⟨RX11, "figure", "(III)I"⟩
abbrev cX11_worded : ByteArray := prog_13_method_52_code
def yX11_worded : MethodName := ⟨RX11, "worded", "(JIII)I"⟩
abbrev cX11_lawClause : ByteArray := prog_13_method_53_code
def yX11_lawClause : MethodName := ⟨RX11, "lawClause", "(I)I"⟩
abbrev cX11_creaseClause : ByteArray := prog_13_method_54_code
def yX11_creaseClause : MethodName := ⟨RX11, "creaseClause", "(I)I"⟩
abbrev cX11_pair : ByteArray := prog_13_method_55_code
def yX11_pair : MethodName := ⟨RX11, "pair", "(IIJI)I"⟩
abbrev cX11_body : ByteArray := prog_13_method_56_code
def yX11_body : MethodName := ⟨RX11, "body", "(II)I"⟩
abbrev cX11_sortOf : ByteArray := prog_13_method_57_code
def yX11_sortOf : MethodName := ⟨RX11, "sortOf", "()I"⟩
abbrev cX11_clause : ByteArray := prog_13_method_58_code
def yX11_clause : MethodName := ⟨RX11, "clause", "()I"⟩
abbrev cX11_readText : ByteArray := prog_13_method_59_code
def yX11_readText : MethodName := ⟨RX11, "readText", "()I"⟩
abbrev cX11_text : ByteArray := prog_13_method_60_code
def yX11_text : MethodName := ⟨RX11, "text", "()I"⟩
abbrev cX11_fault : ByteArray := prog_13_method_61_code
def yX11_fault : MethodName := ⟨RX11, "fault", "(I)I"⟩
abbrev cX11_by : ByteArray := prog_13_method_62_code
def yX11_by : MethodName := ⟨RX11, "by", "(I)Z"⟩
abbrev cX11_clip : ByteArray := prog_13_method_63_code
def yX11_clip : MethodName := ⟨RX11, "clip", "(J)J"⟩
abbrev cX11_two : ByteArray := prog_13_method_64_code
def yX11_two : MethodName := ⟨RX11, "two", "(IJJ)J"⟩
abbrev cX11_isAsked : ByteArray := prog_13_method_65_code
def yX11_isAsked : MethodName := ⟨RX11, "isAsked", "(IJJ)Z"⟩
abbrev cX11_turned : ByteArray := prog_13_method_66_code
def yX11_turned : MethodName := ⟨RX11, "turned", "(J)J"⟩
abbrev cX11_deepOf : ByteArray := prog_13_method_67_code
def yX11_deepOf : MethodName := ⟨RX11, "deepOf", "(J)J"⟩
abbrev cX11_joined : ByteArray := prog_13_method_68_code
def yX11_joined : MethodName := ⟨RX11, "joined", "(IZZ)Z"⟩
abbrev cX11_summedUp : ByteArray := prog_13_method_69_code
def yX11_summedUp : MethodName := ⟨RX11, "summedUp", "(II)J"⟩
abbrev cX11_says : ByteArray := prog_13_method_70_code
def yX11_says : MethodName := ⟨RX11, "says", "(IIII)I"⟩
abbrev cX11_name : ByteArray := prog_13_method_71_code
def yX11_name : MethodName := ⟨RX11, "name", "(I)V"⟩
abbrev cX11_pressesOf : ByteArray := prog_13_method_72_code
def yX11_pressesOf : MethodName := ⟨RX11, "pressesOf", "(I)I"⟩
abbrev cX11_scorchesOf : ByteArray := prog_13_method_73_code
def yX11_scorchesOf : MethodName := ⟨RX11, "scorchesOf", "(I)I"⟩
abbrev cX11_priceOf : ByteArray := prog_13_method_74_code
def yX11_priceOf : MethodName := ⟨RX11, "priceOf", "(II)I"⟩
abbrev cX11_write : ByteArray := prog_13_method_75_code
def yX11_write : MethodName := ⟨RX11, "write", "(II)V"⟩
abbrev cX11_anew : ByteArray := prog_13_method_76_code
def yX11_anew : MethodName := ⟨RX11, "anew", "()V"⟩
abbrev cX11_become : ByteArray := prog_13_method_77_code
def yX11_become : MethodName := ⟨RX11, "become", "(III)V"⟩
abbrev cX11_pressNow : ByteArray := prog_13_method_78_code
def yX11_pressNow : MethodName := ⟨RX11, "pressNow", "(I)V"⟩
abbrev cX11_canBack : ByteArray := prog_13_method_79_code
def yX11_canBack : MethodName := ⟨RX11, "canBack", "(I)Z"⟩
abbrev cX11_dampNow : ByteArray := prog_13_method_80_code
def yX11_dampNow : MethodName := ⟨RX11, "dampNow", "(I)I"⟩
abbrev cX11_pass : ByteArray := prog_13_method_81_code
def yX11_pass : MethodName := ⟨RX11, "pass", "()V"⟩
abbrev cX11_keep : ByteArray := prog_13_method_82_code
def yX11_keep : MethodName := ⟨RX11, "keep", "()V"⟩
abbrev cX11_undo : ByteArray := prog_13_method_83_code
def yX11_undo : MethodName := ⟨RX11, "undo", "()I"⟩
abbrev cX11_press : ByteArray := prog_13_method_84_code
def yX11_press : MethodName := ⟨RX11, "press", "(I)I"⟩
abbrev cX11_pattern : ByteArray := prog_13_method_85_code
def yX11_pattern : MethodName := ⟨RX11, "pattern", "(I)Z"⟩
abbrev cX11_damp : ByteArray := prog_13_method_86_code
def yX11_damp : MethodName := ⟨RX11, "damp", "(I)I"⟩
abbrev cX11_arePassed : ByteArray := prog_13_method_87_code
def yX11_arePassed : MethodName := ⟨RX11, "arePassed", "(I)Z"⟩
abbrev cX11_hour : ByteArray := prog_13_method_88_code
def yX11_hour : MethodName := ⟨RX11, "hour", "(I)I"⟩
abbrev cX11_isPlayed : ByteArray := prog_13_method_89_code
def yX11_isPlayed : MethodName := ⟨RX11, "isPlayed", "(I)Z"⟩
abbrev cX11_played : ByteArray := prog_13_method_90_code
def yX11_played : MethodName := ⟨RX11, "played", "(I)I"⟩
abbrev cX11_happens : ByteArray := prog_13_method_91_code
def yX11_happens : MethodName := ⟨RX11, "happens", "(I)V"⟩
abbrev cX11_seasons : ByteArray := prog_13_method_92_code
def yX11_seasons : MethodName := ⟨RX11, "seasons", "(II)I"⟩
abbrev cX11_worthOf : ByteArray := prog_13_method_93_code
def yX11_worthOf : MethodName := ⟨RX11, "worthOf", "(I)I"⟩
abbrev cX11_isCreased : ByteArray := prog_13_method_94_code
def yX11_isCreased : MethodName := ⟨RX11, "isCreased", "(II)Z"⟩
abbrev cX11_spanOf : ByteArray := prog_13_method_95_code
def yX11_spanOf : MethodName := ⟨RX11, "spanOf", "(I)I"⟩
abbrev cX11_of : ByteArray := prog_13_method_96_code
def yX11_of : MethodName := ⟨RX11, "of", "(II)I"⟩
abbrev cX11_ofCrease : ByteArray := prog_13_method_97_code
def yX11_ofCrease : MethodName := ⟨RX11, "ofCrease", "(II)I"⟩
abbrev cX11_is : ByteArray := prog_13_method_98_code
def yX11_is : MethodName := ⟨RX11, "is", "(I)I"⟩
abbrev cX11_entry : ByteArray := prog_13_method_99_code
def yX11_entry : MethodName := ⟨RX11, "entry", "(II)I"⟩
abbrev cX11_book : ByteArray := prog_13_method_100_code
def yX11_book : MethodName := ⟨RX11, "book", "(II)I"⟩
abbrev cX11_befell : ByteArray := prog_13_method_101_code
def yX11_befell : MethodName := ⟨RX11, "befell", "(II)I"⟩
abbrev cX11_hanging : ByteArray := prog_13_method_102_code
def yX11_hanging : MethodName := ⟨RX11, "hanging", "(I)I"⟩
abbrev cX11_eldest : ByteArray := prog_13_method_103_code
def yX11_eldest : MethodName := ⟨RX11, "eldest", "(I)I"⟩
abbrev cX11_blank : ByteArray := prog_13_method_104_code
def yX11_blank : MethodName := ⟨RX11, "blank", "()I"⟩
abbrev cX11_tensOf : ByteArray := prog_13_method_105_code
def yX11_tensOf : MethodName := ⟨RX11, "tensOf", "(I)I"⟩
abbrev cX11_shared : ByteArray := prog_13_method_106_code
def yX11_shared : MethodName := ⟨RX11, "shared", "(II)I"⟩
abbrev cX11_foretold : ByteArray := prog_13_method_107_code
def yX11_foretold : MethodName := ⟨RX11, "foretold", "(II)I"⟩
abbrev cX11_want : ByteArray := prog_13_method_108_code
def yX11_want : MethodName := ⟨RX11, "want", "(II)I"⟩
abbrev cX11_wanted : ByteArray := prog_13_method_109_code
def yX11_wanted : MethodName := ⟨RX11, "wanted", "(I)I"⟩
abbrev cX11_isClosed : ByteArray := prog_13_method_110_code
def yX11_isClosed : MethodName := ⟨RX11, "isClosed", "(I)Z"⟩
abbrev cX11_cut : ByteArray := prog_13_method_111_code
def yX11_cut : MethodName := ⟨RX11, "cut", "(Z)I"⟩
abbrev cX11_board : ByteArray := prog_13_method_112_code
def yX11_board : MethodName := ⟨RX11, "board", "(I)I"⟩
abbrev cX11_endOf : ByteArray := prog_13_method_113_code
def yX11_endOf : MethodName := ⟨RX11, "endOf", "(II)I"⟩
abbrev cX11_hands : ByteArray := prog_13_method_114_code
def yX11_hands : MethodName := ⟨RX11, "hands", "(II)I"⟩
abbrev cX11_isFlat : ByteArray := prog_13_method_115_code
def yX11_isFlat : MethodName := ⟨RX11, "isFlat", "(III)Z"⟩
abbrev cX11_flat : ByteArray := prog_13_method_116_code
def yX11_flat : MethodName := ⟨RX11, "flat", "(III)I"⟩
abbrev cX11_seam : ByteArray := prog_13_method_117_code
def yX11_seam : MethodName := ⟨RX11, "seam", "(III)I"⟩
abbrev cX11_isSeamed : ByteArray := prog_13_method_118_code
def yX11_isSeamed : MethodName := ⟨RX11, "isSeamed", "(I)Z"⟩
abbrev cX11_laySets : ByteArray := prog_13_method_119_code
def yX11_laySets : MethodName := ⟨RX11, "laySets", "(I)V"⟩
abbrev cX11_sets : ByteArray := prog_13_method_120_code
def yX11_sets : MethodName := ⟨RX11, "sets", "(II)I"⟩
abbrev cX11_next : ByteArray := prog_13_method_121_code
def yX11_next : MethodName := ⟨RX11, "next", "(I)I"⟩
abbrev cX11_heir : ByteArray := prog_13_method_122_code
def yX11_heir : MethodName := ⟨RX11, "heir", "(I)I"⟩
abbrev cX11_layTurns : ByteArray := prog_13_method_123_code
def yX11_layTurns : MethodName := ⟨RX11, "layTurns", "(I)V"⟩
abbrev cX11_layWhole : ByteArray := prog_13_method_124_code
def yX11_layWhole : MethodName := ⟨RX11, "layWhole", "(I)V"⟩
abbrev cX11_laughs : ByteArray := prog_13_method_125_code
def yX11_laughs : MethodName := ⟨RX11, "laughs", "(IZI)I"⟩
abbrev cX11_offer : ByteArray := prog_13_method_126_code
def yX11_offer : MethodName := ⟨RX11, "offer", "(I)I"⟩
abbrev cX11_price : ByteArray := prog_13_method_127_code
def yX11_price : MethodName := ⟨RX11, "price", "(Z)I"⟩
abbrev cX11_common : ByteArray := prog_13_method_128_code
def yX11_common : MethodName := ⟨RX11, "common", "(JJ)J"⟩
abbrev cX11_power : ByteArray := prog_13_method_129_code
def yX11_power : MethodName := ⟨RX11, "power", "(II)J"⟩
abbrev cX11_ways : ByteArray := prog_13_method_130_code
def yX11_ways : MethodName := ⟨RX11, "ways", "(II)J"⟩
abbrev cX11_wrongly : ByteArray := prog_13_method_131_code
def yX11_wrongly : MethodName := ⟨RX11, "wrongly", "(IIIIZ)J"⟩
abbrev cX11_priced : ByteArray := prog_13_method_132_code
def yX11_priced : MethodName := ⟨RX11, "priced", "(II)I"⟩
abbrev cX11_whose : ByteArray := prog_13_method_133_code
def yX11_whose : MethodName := ⟨RX11, "whose", "()I"⟩
abbrev cX11_image : ByteArray := prog_13_method_134_code
def yX11_image : MethodName := ⟨RX11, "image", "()I"⟩
abbrev cX11_back : ByteArray := prog_13_method_135_code
def yX11_back : MethodName := ⟨RX11, "back", "()I"⟩
abbrev cX11_about : ByteArray := prog_13_method_136_code
def yX11_about : MethodName := ⟨RX11, "about", "(I)I"⟩
def RJ6 : String := "java/lang/Integer"
def TJ6 : u_T := fun k => match k with
  | _ => ("", "", "", false)
def tyJ6 : Nat → FieldType := fun k => match k with
  | _ => .int
abbrev wsJ60 : List Cond := u_ws RJ6 TJ6 0
theorem nmJ6 : ∀ a, a < 0 → ∀ b, b < 0 → a ≠ b → (TJ6 a).2.1 ≠ (TJ6 b).2.1 := by decide +kernel
theorem tyJ6_ok : ∀ k, k < 0 → parseFieldDescriptor (TJ6 k).2.2.1 = some (tyJ6 k) := by decide +kernel
abbrev cJ6_bitCount_0f7a4 : ByteArray := prog_14_method_49_code
def yJ6_bitCount_0f7a4 : MethodName := ⟨RJ6, "bitCount", "(I)I"⟩
def RJ9 : String := "java/lang/Math"
def TJ9 : u_T := fun k => match k with
  | _ => ("", "", "", false)
def tyJ9 : Nat → FieldType := fun k => match k with
  | _ => .int
abbrev wsJ90 : List Cond := u_ws RJ9 TJ9 0
theorem nmJ9 : ∀ a, a < 0 → ∀ b, b < 0 → a ≠ b → (TJ9 a).2.1 ≠ (TJ9 b).2.1 := by decide +kernel
theorem tyJ9_ok : ∀ k, k < 0 → parseFieldDescriptor (TJ9 k).2.2.1 = some (tyJ9 k) := by decide +kernel
abbrev cJ9_abs_0f7a4 : ByteArray := prog_15_method_59_code
def yJ9_abs_0f7a4 : MethodName := ⟨RJ9, "abs", "(I)I"⟩
abbrev cJ9_max_7cf53 : ByteArray := prog_15_method_65_code
def yJ9_max_7cf53 : MethodName := ⟨RJ9, "max", "(II)I"⟩
abbrev cJ9_max_f86c9 : ByteArray := prog_15_method_66_code
def yJ9_max_f86c9 : MethodName := ⟨RJ9, "max", "(JJ)J"⟩
abbrev cJ9_min_7cf53 : ByteArray := prog_15_method_69_code
def yJ9_min_7cf53 : MethodName := ⟨RJ9, "min", "(II)I"⟩
abbrev cJ9_min_f86c9 : ByteArray := prog_15_method_70_code
def yJ9_min_f86c9 : MethodName := ⟨RJ9, "min", "(JJ)J"⟩
def RJ0 : String := "java/lang/String"
def TJ0 : u_T := fun k => match k with
  | _ => ("", "", "", false)
def tyJ0 : Nat → FieldType := fun k => match k with
  | _ => .int
abbrev wsJ00 : List Cond := u_ws RJ0 TJ0 0
theorem nmJ0 : ∀ a, a < 0 → ∀ b, b < 0 → a ≠ b → (TJ0 a).2.1 ≠ (TJ0 b).2.1 := by decide +kernel
theorem tyJ0_ok : ∀ k, k < 0 → parseFieldDescriptor (TJ0 k).2.2.1 = some (tyJ0 k) := by decide +kernel
abbrev cJ0_length_8abf5 : ByteArray := prog_16_method_54_code
def yJ0_length_8abf5 : MethodName := ⟨RJ0, "length", "()I"⟩
abbrev cJ0_charAt_5068e : ByteArray := prog_16_method_56_code
def yJ0_charAt_5068e : MethodName := ⟨RJ0, "charAt", "(I)C"⟩
abbrev cJ0_coder_7d493 : ByteArray := prog_16_method_152_code
def yJ0_coder_7d493 : MethodName := ⟨RJ0, "coder", "()B"⟩
abbrev cJ0_isLatin1_aae02 : ByteArray := prog_16_method_154_code
def yJ0_isLatin1_aae02 : MethodName := ⟨RJ0, "isLatin1", "()Z"⟩
abbrev cJ0_checkIndex_df160 : ByteArray := prog_16_method_155_code
def yJ0_checkIndex_df160 : MethodName := ⟨RJ0, "checkIndex", "(II)V"⟩
def RJ1 : String := "java/lang/StringLatin1"
def TJ1 : u_T := fun k => match k with
  | _ => ("", "", "", false)
def tyJ1 : Nat → FieldType := fun k => match k with
  | _ => .int
abbrev wsJ10 : List Cond := u_ws RJ1 TJ1 0
theorem nmJ1 : ∀ a, a < 0 → ∀ b, b < 0 → a ≠ b → (TJ1 a).2.1 ≠ (TJ1 b).2.1 := by decide +kernel
theorem tyJ1_ok : ∀ k, k < 0 → parseFieldDescriptor (TJ1 k).2.2.1 = some (tyJ1 k) := by decide +kernel
abbrev cJ1_charAt_3b067 : ByteArray := prog_17_method_2_code
def yJ1_charAt_3b067 : MethodName := ⟨RJ1, "charAt", "([BI)C"⟩
def RJ2 : String := "java/lang/StringUTF16"
def TJ2 : u_T := fun k => match k with
  | _ => ("", "", "", false)
def tyJ2 : Nat → FieldType := fun k => match k with
  | _ => .int
abbrev wsJ20 : List Cond := u_ws RJ2 TJ2 0
theorem nmJ2 : ∀ a, a < 0 → ∀ b, b < 0 → a ≠ b → (TJ2 a).2.1 ≠ (TJ2 b).2.1 := by decide +kernel
theorem tyJ2_ok : ∀ k, k < 0 → parseFieldDescriptor (TJ2 k).2.2.1 = some (tyJ2 k) := by decide +kernel
abbrev cJ2_getChar_3b067 : ByteArray := prog_18_method_5_code
def yJ2_getChar_3b067 : MethodName := ⟨RJ2, "getChar", "([BI)C"⟩
abbrev cJ2_length_9d52b : ByteArray := prog_18_method_6_code
def yJ2_length_9d52b : MethodName := ⟨RJ2, "length", "([B)I"⟩
abbrev cJ2_charAt_3b067 : ByteArray := prog_18_method_83_code
def yJ2_charAt_3b067 : MethodName := ⟨RJ2, "charAt", "([BI)C"⟩
abbrev cJ2_checkIndex_2214a : ByteArray := prog_18_method_91_code
def yJ2_checkIndex_2214a : MethodName := ⟨RJ2, "checkIndex", "(I[B)V"⟩
def RJ10 : String := "java/lang/System"
def TJ10 : u_T := fun k => match k with
  | _ => ("", "", "", false)
def tyJ10 : Nat → FieldType := fun k => match k with
  | _ => .int
abbrev wsJ100 : List Cond := u_ws RJ10 TJ10 0
theorem nmJ10 : ∀ a, a < 0 → ∀ b, b < 0 → a ≠ b → (TJ10 a).2.1 ≠ (TJ10 b).2.1 := by decide +kernel
theorem tyJ10_ok : ∀ k, k < 0 → parseFieldDescriptor (TJ10 k).2.2.1 = some (tyJ10 k) := by decide +kernel
def RJ3 : String := "jdk/internal/util/Preconditions"
def TJ3 : u_T := fun k => match k with
  | _ => ("", "", "", false)
def tyJ3 : Nat → FieldType := fun k => match k with
  | _ => .int
abbrev wsJ30 : List Cond := u_ws RJ3 TJ3 0
theorem nmJ3 : ∀ a, a < 0 → ∀ b, b < 0 → a ≠ b → (TJ3 a).2.1 ≠ (TJ3 b).2.1 := by decide +kernel
theorem tyJ3_ok : ∀ k, k < 0 → parseFieldDescriptor (TJ3 k).2.2.1 = some (tyJ3 k) := by decide +kernel
abbrev cJ3_checkIndex_8e157 : ByteArray := prog_20_method_11_code
def yJ3_checkIndex_8e157 : MethodName := ⟨RJ3, "checkIndex", "(IILjava/util/function/BiFunction;)I"⟩
def RL : String := "IronedOutLaw"
abbrev cL_law : ByteArray := code
def yL_law : MethodName := ⟨RL, "law", "([I)Z"⟩
abbrev vwCl : List vw_C := [(RX0, TX0, 2), (RX1, TX1, 6), (RX2, TX2, 6), (RX3, TX3, 9), (RX4, TX4, 10), (RX5, TX5, 2), (RX6, TX6, 21), (RX7, TX7, 3), (RX8, TX8, 6), (RX9, TX9, 4), (RX10, TX10, 7), (RX11, TX11, 29)]
