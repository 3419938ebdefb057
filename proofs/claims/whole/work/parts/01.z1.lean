theorem dX5_setToPress_106 : decode cX5_setToPress 106 = .ok (.istore 5, 2) := by decide +kernel
theorem dX5_setToPress_108 : decode cX5_setToPress 108 = .ok (.iload 6, 2) := by decide +kernel
theorem dX5_setToPress_110 : decode cX5_setToPress 110 = .ok (.iload 9, 2) := by decide +kernel
theorem dX5_setToPress_112 : decode cX5_setToPress 112 = .ok (.invokestatic 33, 3) := by decide +kernel
theorem dX5_setToPress_115 : decode cX5_setToPress 115 = .ok (.istore 6, 2) := by decide +kernel
theorem dX5_setToPress_117 : decode cX5_setToPress 117 = .ok (.iload 7, 2) := by decide +kernel
theorem dX5_setToPress_119 : decode cX5_setToPress 119 = .ok (.iload_n 2, 1) := by decide +kernel
theorem dX5_setToPress_120 : decode cX5_setToPress 120 = .ok (.isub, 1) := by decide +kernel
theorem dX5_setToPress_121 : decode cX5_setToPress 121 = .ok (.iload_n 2, 1) := by decide +kernel
theorem dX5_setToPress_122 : decode cX5_setToPress 122 = .ok (.iand, 1) := by decide +kernel
theorem dX5_setToPress_123 : decode cX5_setToPress 123 = .ok (.istore 7, 2) := by decide +kernel
theorem dX5_setToPress_125 : decode cX5_setToPress 125 = .ok (.iinc 8 1, 3) := by decide +kernel
theorem dX5_setToPress_128 : decode cX5_setToPress 128 = .ok (.goto (-91), 3) := by decide +kernel
theorem dX5_setToPress_131 : decode cX5_setToPress 131 = .ok (.iload 5, 2) := by decide +kernel
theorem dX5_setToPress_133 : decode cX5_setToPress 133 = .ok (.ireturn, 1) := by decide +kernel
theorem dX5_wantedTo_0 : decode cX5_wantedTo 0 = .ok (.iconst 0, 1) := by decide +kernel
theorem dX5_wantedTo_1 : decode cX5_wantedTo 1 = .ok (.istore_n 3, 1) := by decide +kernel
theorem dX5_wantedTo_2 : decode cX5_wantedTo 2 = .ok (.iconst 0, 1) := by decide +kernel
theorem dX5_wantedTo_3 : decode cX5_wantedTo 3 = .ok (.istore 4, 2) := by decide +kernel
theorem dX5_wantedTo_5 : decode cX5_wantedTo 5 = .ok (.iload 4, 2) := by decide +kernel
theorem dX5_wantedTo_7 : decode cX5_wantedTo 7 = .ok (.aload_n 1, 1) := by decide +kernel
theorem dX5_wantedTo_8 : decode cX5_wantedTo 8 = .ok (.getfield 68, 3) := by decide +kernel
theorem dX5_wantedTo_11 : decode cX5_wantedTo 11 = .ok (.getfield 72, 3) := by decide +kernel
theorem dX5_wantedTo_14 : decode cX5_wantedTo 14 = .ok (.if_icmp .ge 51, 3) := by decide +kernel
theorem dX5_wantedTo_17 : decode cX5_wantedTo 17 = .ok (.iconst 1, 1) := by decide +kernel
theorem dX5_wantedTo_18 : decode cX5_wantedTo 18 = .ok (.aload_n 1, 1) := by decide +kernel
theorem dX5_wantedTo_19 : decode cX5_wantedTo 19 = .ok (.getfield 68, 3) := by decide +kernel
theorem dX5_wantedTo_22 : decode cX5_wantedTo 22 = .ok (.getfield 77, 3) := by decide +kernel
theorem dX5_wantedTo_25 : decode cX5_wantedTo 25 = .ok (.iload 4, 2) := by decide +kernel
theorem dX5_wantedTo_27 : decode cX5_wantedTo 27 = .ok (.iaload, 1) := by decide +kernel
theorem dX5_wantedTo_28 : decode cX5_wantedTo 28 = .ok (.ishl, 1) := by decide +kernel
theorem dX5_wantedTo_29 : decode cX5_wantedTo 29 = .ok (.istore 5, 2) := by decide +kernel
theorem dX5_wantedTo_31 : decode cX5_wantedTo 31 = .ok (.aload_n 1, 1) := by decide +kernel
theorem dX5_wantedTo_32 : decode cX5_wantedTo 32 = .ok (.getfield 68, 3) := by decide +kernel
theorem dX5_wantedTo_35 : decode cX5_wantedTo 35 = .ok (.getfield 80, 3) := by decide +kernel
theorem dX5_wantedTo_38 : decode cX5_wantedTo 38 = .ok (.iload 4, 2) := by decide +kernel
theorem dX5_wantedTo_40 : decode cX5_wantedTo 40 = .ok (.iaload, 1) := by decide +kernel
theorem dX5_wantedTo_41 : decode cX5_wantedTo 41 = .ok (.iload_n 2, 1) := by decide +kernel
theorem dX5_wantedTo_42 : decode cX5_wantedTo 42 = .ok (.if_icmp .ne 10, 3) := by decide +kernel
theorem dX5_wantedTo_45 : decode cX5_wantedTo 45 = .ok (.iload_n 3, 1) := by decide +kernel
theorem dX5_wantedTo_46 : decode cX5_wantedTo 46 = .ok (.iload 5, 2) := by decide +kernel
theorem dX5_wantedTo_48 : decode cX5_wantedTo 48 = .ok (.ior, 1) := by decide +kernel
theorem dX5_wantedTo_49 : decode cX5_wantedTo 49 = .ok (.goto 9, 3) := by decide +kernel
theorem dX5_wantedTo_52 : decode cX5_wantedTo 52 = .ok (.iload_n 3, 1) := by decide +kernel
theorem dX5_wantedTo_53 : decode cX5_wantedTo 53 = .ok (.iload 5, 2) := by decide +kernel
theorem dX5_wantedTo_55 : decode cX5_wantedTo 55 = .ok (.iconst (-1), 1) := by decide +kernel
theorem dX5_wantedTo_56 : decode cX5_wantedTo 56 = .ok (.ixor, 1) := by decide +kernel
theorem dX5_wantedTo_57 : decode cX5_wantedTo 57 = .ok (.iand, 1) := by decide +kernel
theorem dX5_wantedTo_58 : decode cX5_wantedTo 58 = .ok (.istore_n 3, 1) := by decide +kernel
theorem dX5_wantedTo_59 : decode cX5_wantedTo 59 = .ok (.iinc 4 1, 3) := by decide +kernel
theorem dX5_wantedTo_62 : decode cX5_wantedTo 62 = .ok (.goto (-57), 3) := by decide +kernel
theorem dX5_wantedTo_65 : decode cX5_wantedTo 65 = .ok (.iload_n 3, 1) := by decide +kernel
theorem dX5_wantedTo_66 : decode cX5_wantedTo 66 = .ok (.ireturn, 1) := by decide +kernel
theorem dX5_isWhole_0 : decode cX5_isWhole 0 = .ok (.iconst 0, 1) := by decide +kernel
theorem dX5_isWhole_1 : decode cX5_isWhole 1 = .ok (.istore 4, 2) := by decide +kernel
theorem dX5_isWhole_3 : decode cX5_isWhole 3 = .ok (.iload 4, 2) := by decide +kernel
theorem dX5_isWhole_5 : decode cX5_isWhole 5 = .ok (.aload_n 1, 1) := by decide +kernel
theorem dX5_isWhole_6 : decode cX5_isWhole 6 = .ok (.getfield 18, 3) := by decide +kernel
theorem dX5_isWhole_9 : decode cX5_isWhole 9 = .ok (.getfield 83, 3) := by decide +kernel
theorem dX5_isWhole_12 : decode cX5_isWhole 12 = .ok (.if_icmp .ge 37, 3) := by decide +kernel
theorem dX5_isWhole_15 : decode cX5_isWhole 15 = .ok (.iload_n 2, 1) := by decide +kernel
theorem dX5_isWhole_16 : decode cX5_isWhole 16 = .ok (.iload 4, 2) := by decide +kernel
theorem dX5_isWhole_18 : decode cX5_isWhole 18 = .ok (.ishr, 1) := by decide +kernel
theorem dX5_isWhole_19 : decode cX5_isWhole 19 = .ok (.iconst 1, 1) := by decide +kernel
theorem dX5_isWhole_20 : decode cX5_isWhole 20 = .ok (.iand, 1) := by decide +kernel
theorem dX5_isWhole_21 : decode cX5_isWhole 21 = .ok (.iconst 1, 1) := by decide +kernel
theorem dX5_isWhole_22 : decode cX5_isWhole 22 = .ok (.if_icmp .ne 21, 3) := by decide +kernel
theorem dX5_isWhole_25 : decode cX5_isWhole 25 = .ok (.aload_n 1, 1) := by decide +kernel
theorem dX5_isWhole_26 : decode cX5_isWhole 26 = .ok (.getfield 86, 3) := by decide +kernel
theorem dX5_isWhole_29 : decode cX5_isWhole 29 = .ok (.iload 4, 2) := by decide +kernel
theorem dX5_isWhole_31 : decode cX5_isWhole 31 = .ok (.iaload, 1) := by decide +kernel
theorem dX5_isWhole_32 : decode cX5_isWhole 32 = .ok (.iload_n 3, 1) := by decide +kernel
theorem dX5_isWhole_33 : decode cX5_isWhole 33 = .ok (.iand, 1) := by decide +kernel
theorem dX5_isWhole_34 : decode cX5_isWhole 34 = .ok (.iload_n 2, 1) := by decide +kernel
theorem dX5_isWhole_35 : decode cX5_isWhole 35 = .ok (.iconst (-1), 1) := by decide +kernel
theorem dX5_isWhole_36 : decode cX5_isWhole 36 = .ok (.ixor, 1) := by decide +kernel
theorem dX5_isWhole_37 : decode cX5_isWhole 37 = .ok (.iand, 1) := by decide +kernel
theorem dX5_isWhole_38 : decode cX5_isWhole 38 = .ok (.ifCond .eq 5, 3) := by decide +kernel
theorem dX5_isWhole_41 : decode cX5_isWhole 41 = .ok (.iconst 0, 1) := by decide +kernel
theorem dX5_isWhole_42 : decode cX5_isWhole 42 = .ok (.ireturn, 1) := by decide +kernel
theorem dX5_isWhole_43 : decode cX5_isWhole 43 = .ok (.iinc 4 1, 3) := by decide +kernel
theorem dX5_isWhole_46 : decode cX5_isWhole 46 = .ok (.goto (-43), 3) := by decide +kernel
theorem dX5_isWhole_49 : decode cX5_isWhole 49 = .ok (.iconst 1, 1) := by decide +kernel
theorem dX5_isWhole_50 : decode cX5_isWhole 50 = .ok (.ireturn, 1) := by decide +kernel
theorem dX5_flattest_0 : decode cX5_flattest 0 = .ok (.aload_n 1, 1) := by decide +kernel
theorem dX5_flattest_1 : decode cX5_flattest 1 = .ok (.iload_n 2, 1) := by decide +kernel
theorem dX5_flattest_2 : decode cX5_flattest 2 = .ok (.invokevirtual 89, 3) := by decide +kernel
theorem dX5_flattest_5 : decode cX5_flattest 5 = .ok (.aload_n 1, 1) := by decide +kernel
theorem dX5_flattest_6 : decode cX5_flattest 6 = .ok (.invokevirtual 46, 3) := by decide +kernel
theorem dX5_flattest_9 : decode cX5_flattest 9 = .ok (.iand, 1) := by decide +kernel
theorem dX5_flattest_10 : decode cX5_flattest 10 = .ok (.istore 5, 2) := by decide +kernel
theorem dX5_flattest_12 : decode cX5_flattest 12 = .ok (.iconst 0, 1) := by decide +kernel
theorem dX5_flattest_13 : decode cX5_flattest 13 = .ok (.istore 6, 2) := by decide +kernel
theorem dX5_flattest_15 : decode cX5_flattest 15 = .ok (.iload 6, 2) := by decide +kernel
theorem dX5_flattest_17 : decode cX5_flattest 17 = .ok (.aload_n 1, 1) := by decide +kernel
theorem dX5_flattest_18 : decode cX5_flattest 18 = .ok (.getfield 18, 3) := by decide +kernel
theorem dX5_flattest_21 : decode cX5_flattest 21 = .ok (.getfield 83, 3) := by decide +kernel
theorem dX5_flattest_24 : decode cX5_flattest 24 = .ok (.if_icmp .ge 33, 3) := by decide +kernel
theorem dX5_flattest_27 : decode cX5_flattest 27 = .ok (.aload_n 0, 1) := by decide +kernel
theorem dX5_flattest_28 : decode cX5_flattest 28 = .ok (.getfield 9, 3) := by decide +kernel
theorem dX5_flattest_31 : decode cX5_flattest 31 = .ok (.iload 6, 2) := by decide +kernel
theorem dX5_flattest_33 : decode cX5_flattest 33 = .ok (.iload 5, 2) := by decide +kernel
theorem dX5_flattest_35 : decode cX5_flattest 35 = .ok (.aload_n 0, 1) := by decide +kernel
theorem dX5_flattest_36 : decode cX5_flattest 36 = .ok (.aload_n 1, 1) := by decide +kernel
theorem dX5_flattest_37 : decode cX5_flattest 37 = .ok (.aload_n 1, 1) := by decide +kernel
theorem dX5_flattest_38 : decode cX5_flattest 38 = .ok (.getfield 92, 3) := by decide +kernel
theorem dX5_flattest_41 : decode cX5_flattest 41 = .ok (.iload 6, 2) := by decide +kernel
theorem dX5_flattest_43 : decode cX5_flattest 43 = .ok (.iaload, 1) := by decide +kernel
theorem dX5_flattest_44 : decode cX5_flattest 44 = .ok (.iload 4, 2) := by decide +kernel
theorem dX5_flattest_46 : decode cX5_flattest 46 = .ok (.invokevirtual 95, 3) := by decide +kernel
theorem dX5_flattest_49 : decode cX5_flattest 49 = .ok (.iand, 1) := by decide +kernel
theorem dX5_flattest_50 : decode cX5_flattest 50 = .ok (.iastore, 1) := by decide +kernel
theorem dX5_flattest_51 : decode cX5_flattest 51 = .ok (.iinc 6 1, 3) := by decide +kernel
theorem dX5_flattest_54 : decode cX5_flattest 54 = .ok (.goto (-39), 3) := by decide +kernel
theorem dX5_flattest_57 : decode cX5_flattest 57 = .ok (.iconst 0, 1) := by decide +kernel
theorem dX5_flattest_58 : decode cX5_flattest 58 = .ok (.istore 6, 2) := by decide +kernel
theorem dX5_flattest_60 : decode cX5_flattest 60 = .ok (.iconst 0, 1) := by decide +kernel
theorem dX5_flattest_61 : decode cX5_flattest 61 = .ok (.istore 7, 2) := by decide +kernel
theorem dX5_flattest_63 : decode cX5_flattest 63 = .ok (.iconst 0, 1) := by decide +kernel
theorem dX5_flattest_64 : decode cX5_flattest 64 = .ok (.istore 8, 2) := by decide +kernel
theorem dX5_flattest_66 : decode cX5_flattest 66 = .ok (.iload 8, 2) := by decide +kernel
theorem dX5_flattest_68 : decode cX5_flattest 68 = .ok (.iconst 1, 1) := by decide +kernel
theorem dX5_flattest_69 : decode cX5_flattest 69 = .ok (.iload 5, 2) := by decide +kernel
theorem dX5_flattest_71 : decode cX5_flattest 71 = .ok (.invokestatic 55, 3) := by decide +kernel
theorem dX5_flattest_74 : decode cX5_flattest 74 = .ok (.ishl, 1) := by decide +kernel
theorem dX5_flattest_75 : decode cX5_flattest 75 = .ok (.if_icmp .ge 47, 3) := by decide +kernel
theorem dX5_flattest_78 : decode cX5_flattest 78 = .ok (.iload 7, 2) := by decide +kernel
theorem dX5_flattest_80 : decode cX5_flattest 80 = .ok (.invokestatic 55, 3) := by decide +kernel
theorem dX5_flattest_83 : decode cX5_flattest 83 = .ok (.iload 6, 2) := by decide +kernel
theorem dX5_flattest_85 : decode cX5_flattest 85 = .ok (.invokestatic 55, 3) := by decide +kernel
theorem dX5_flattest_88 : decode cX5_flattest 88 = .ok (.if_icmp .le 18, 3) := by decide +kernel
theorem dX5_flattest_91 : decode cX5_flattest 91 = .ok (.aload_n 0, 1) := by decide +kernel
theorem dX5_flattest_92 : decode cX5_flattest 92 = .ok (.aload_n 1, 1) := by decide +kernel
theorem dX5_flattest_93 : decode cX5_flattest 93 = .ok (.iload 7, 2) := by decide +kernel
theorem dX5_flattest_95 : decode cX5_flattest 95 = .ok (.iload_n 3, 1) := by decide +kernel
theorem dX5_flattest_96 : decode cX5_flattest 96 = .ok (.invokevirtual 99, 3) := by decide +kernel
theorem dX5_flattest_99 : decode cX5_flattest 99 = .ok (.ifCond .eq 7, 3) := by decide +kernel
theorem dX5_flattest_102 : decode cX5_flattest 102 = .ok (.iload 7, 2) := by decide +kernel
theorem dX5_flattest_104 : decode cX5_flattest 104 = .ok (.istore 6, 2) := by decide +kernel
theorem dX5_flattest_106 : decode cX5_flattest 106 = .ok (.iload 7, 2) := by decide +kernel
theorem dX5_flattest_108 : decode cX5_flattest 108 = .ok (.iload 5, 2) := by decide +kernel
theorem dX5_flattest_110 : decode cX5_flattest 110 = .ok (.isub, 1) := by decide +kernel
theorem dX5_flattest_111 : decode cX5_flattest 111 = .ok (.iload 5, 2) := by decide +kernel
theorem dX5_flattest_113 : decode cX5_flattest 113 = .ok (.iand, 1) := by decide +kernel
theorem dX5_flattest_114 : decode cX5_flattest 114 = .ok (.istore 7, 2) := by decide +kernel
theorem dX5_flattest_116 : decode cX5_flattest 116 = .ok (.iinc 8 1, 3) := by decide +kernel
theorem dX5_flattest_119 : decode cX5_flattest 119 = .ok (.goto (-53), 3) := by decide +kernel
theorem dX5_flattest_122 : decode cX5_flattest 122 = .ok (.iload 6, 2) := by decide +kernel
theorem dX5_flattest_124 : decode cX5_flattest 124 = .ok (.ireturn, 1) := by decide +kernel
theorem dX5_within_0 : decode cX5_within 0 = .ok (.iconst 0, 1) := by decide +kernel
theorem dX5_within_1 : decode cX5_within 1 = .ok (.istore 4, 2) := by decide +kernel
theorem dX5_within_3 : decode cX5_within 3 = .ok (.iconst 0, 1) := by decide +kernel
theorem dX5_within_4 : decode cX5_within 4 = .ok (.istore 5, 2) := by decide +kernel
theorem dX5_within_6 : decode cX5_within 6 = .ok (.iload 5, 2) := by decide +kernel
theorem dX5_within_8 : decode cX5_within 8 = .ok (.aload_n 1, 1) := by decide +kernel
theorem dX5_within_9 : decode cX5_within 9 = .ok (.getfield 18, 3) := by decide +kernel
theorem dX5_within_12 : decode cX5_within 12 = .ok (.getfield 83, 3) := by decide +kernel
theorem dX5_within_15 : decode cX5_within 15 = .ok (.if_icmp .ge 58, 3) := by decide +kernel
theorem dX5_within_18 : decode cX5_within 18 = .ok (.aload_n 1, 1) := by decide +kernel
theorem dX5_within_19 : decode cX5_within 19 = .ok (.getfield 92, 3) := by decide +kernel
theorem dX5_within_22 : decode cX5_within 22 = .ok (.iload 5, 2) := by decide +kernel
theorem dX5_within_24 : decode cX5_within 24 = .ok (.iaload, 1) := by decide +kernel
theorem dX5_within_25 : decode cX5_within 25 = .ok (.iload_n 2, 1) := by decide +kernel
theorem dX5_within_26 : decode cX5_within 26 = .ok (.if_icmp .lt 20, 3) := by decide +kernel
theorem dX5_within_29 : decode cX5_within 29 = .ok (.aload_n 1, 1) := by decide +kernel
theorem dX5_within_30 : decode cX5_within 30 = .ok (.getfield 92, 3) := by decide +kernel
theorem dX5_within_33 : decode cX5_within 33 = .ok (.iload 5, 2) := by decide +kernel
theorem dX5_within_35 : decode cX5_within 35 = .ok (.iaload, 1) := by decide +kernel
theorem dX5_within_36 : decode cX5_within 36 = .ok (.iload_n 2, 1) := by decide +kernel
theorem dX5_within_37 : decode cX5_within 37 = .ok (.iload_n 3, 1) := by decide +kernel
theorem dX5_within_38 : decode cX5_within 38 = .ok (.iadd, 1) := by decide +kernel
theorem dX5_within_39 : decode cX5_within 39 = .ok (.if_icmp .ge 7, 3) := by decide +kernel
theorem dX5_within_42 : decode cX5_within 42 = .ok (.iconst 1, 1) := by decide +kernel
theorem dX5_within_43 : decode cX5_within 43 = .ok (.goto 4, 3) := by decide +kernel
theorem dX5_within_46 : decode cX5_within 46 = .ok (.iconst 0, 1) := by decide +kernel
theorem dX5_within_47 : decode cX5_within 47 = .ok (.istore 6, 2) := by decide +kernel
theorem dX5_within_49 : decode cX5_within 49 = .ok (.iload 4, 2) := by decide +kernel
theorem dX5_within_51 : decode cX5_within 51 = .ok (.iload 6, 2) := by decide +kernel
theorem dX5_within_53 : decode cX5_within 53 = .ok (.ifCond .eq 10, 3) := by decide +kernel
theorem dX5_within_56 : decode cX5_within 56 = .ok (.iconst 1, 1) := by decide +kernel
theorem dX5_within_57 : decode cX5_within 57 = .ok (.iload 5, 2) := by decide +kernel
theorem dX5_within_59 : decode cX5_within 59 = .ok (.ishl, 1) := by decide +kernel
theorem dX5_within_60 : decode cX5_within 60 = .ok (.goto 4, 3) := by decide +kernel
theorem dX5_within_63 : decode cX5_within 63 = .ok (.iconst 0, 1) := by decide +kernel
theorem dX5_within_64 : decode cX5_within 64 = .ok (.ior, 1) := by decide +kernel
theorem dX5_within_65 : decode cX5_within 65 = .ok (.istore 4, 2) := by decide +kernel
theorem dX5_within_67 : decode cX5_within 67 = .ok (.iinc 5 1, 3) := by decide +kernel
theorem dX5_within_70 : decode cX5_within 70 = .ok (.goto (-64), 3) := by decide +kernel
theorem dX5_within_73 : decode cX5_within 73 = .ok (.iload 4, 2) := by decide +kernel
theorem dX5_within_75 : decode cX5_within 75 = .ok (.ireturn, 1) := by decide +kernel
theorem dX5_isFlat_0 : decode cX5_isFlat 0 = .ok (.iconst 0, 1) := by decide +kernel
theorem dX5_isFlat_1 : decode cX5_isFlat 1 = .ok (.istore 4, 2) := by decide +kernel
theorem dX5_isFlat_3 : decode cX5_isFlat 3 = .ok (.iload 4, 2) := by decide +kernel
theorem dX5_isFlat_5 : decode cX5_isFlat 5 = .ok (.aload_n 1, 1) := by decide +kernel
theorem dX5_isFlat_6 : decode cX5_isFlat 6 = .ok (.getfield 18, 3) := by decide +kernel
theorem dX5_isFlat_9 : decode cX5_isFlat 9 = .ok (.getfield 83, 3) := by decide +kernel
theorem dX5_isFlat_12 : decode cX5_isFlat 12 = .ok (.if_icmp .ge 37, 3) := by decide +kernel
theorem dX5_isFlat_15 : decode cX5_isFlat 15 = .ok (.iload_n 2, 1) := by decide +kernel
theorem dX5_isFlat_16 : decode cX5_isFlat 16 = .ok (.iload 4, 2) := by decide +kernel
theorem dX5_isFlat_18 : decode cX5_isFlat 18 = .ok (.ishr, 1) := by decide +kernel
theorem dX5_isFlat_19 : decode cX5_isFlat 19 = .ok (.iconst 1, 1) := by decide +kernel
theorem dX5_isFlat_20 : decode cX5_isFlat 20 = .ok (.iand, 1) := by decide +kernel
theorem dX5_isFlat_21 : decode cX5_isFlat 21 = .ok (.iconst 1, 1) := by decide +kernel
theorem dX5_isFlat_22 : decode cX5_isFlat 22 = .ok (.if_icmp .ne 21, 3) := by decide +kernel
theorem dX5_isFlat_25 : decode cX5_isFlat 25 = .ok (.iload_n 2, 1) := by decide +kernel
theorem dX5_isFlat_26 : decode cX5_isFlat 26 = .ok (.aload_n 0, 1) := by decide +kernel
theorem dX5_isFlat_27 : decode cX5_isFlat 27 = .ok (.getfield 9, 3) := by decide +kernel
theorem dX5_isFlat_30 : decode cX5_isFlat 30 = .ok (.iload 4, 2) := by decide +kernel
theorem dX5_isFlat_32 : decode cX5_isFlat 32 = .ok (.iaload, 1) := by decide +kernel
theorem dX5_isFlat_33 : decode cX5_isFlat 33 = .ok (.iand, 1) := by decide +kernel
theorem dX5_isFlat_34 : decode cX5_isFlat 34 = .ok (.invokestatic 55, 3) := by decide +kernel
theorem dX5_isFlat_37 : decode cX5_isFlat 37 = .ok (.iload_n 3, 1) := by decide +kernel
theorem dX5_isFlat_38 : decode cX5_isFlat 38 = .ok (.if_icmp .le 5, 3) := by decide +kernel
theorem dX5_isFlat_41 : decode cX5_isFlat 41 = .ok (.iconst 0, 1) := by decide +kernel
theorem dX5_isFlat_42 : decode cX5_isFlat 42 = .ok (.ireturn, 1) := by decide +kernel
theorem dX5_isFlat_43 : decode cX5_isFlat 43 = .ok (.iinc 4 1, 3) := by decide +kernel
theorem dX5_isFlat_46 : decode cX5_isFlat 46 = .ok (.goto (-43), 3) := by decide +kernel
theorem dX5_isFlat_49 : decode cX5_isFlat 49 = .ok (.iconst 1, 1) := by decide +kernel
theorem dX5_isFlat_50 : decode cX5_isFlat 50 = .ok (.ireturn, 1) := by decide +kernel
theorem dX5_longestSpan_0 : decode cX5_longestSpan 0 = .ok (.aload_n 1, 1) := by decide +kernel
theorem dX5_longestSpan_1 : decode cX5_longestSpan 1 = .ok (.iload_n 2, 1) := by decide +kernel
theorem dX5_longestSpan_2 : decode cX5_longestSpan 2 = .ok (.invokevirtual 89, 3) := by decide +kernel
theorem dX5_longestSpan_5 : decode cX5_longestSpan 5 = .ok (.aload_n 1, 1) := by decide +kernel
theorem dX5_longestSpan_6 : decode cX5_longestSpan 6 = .ok (.invokevirtual 46, 3) := by decide +kernel
theorem dX5_longestSpan_9 : decode cX5_longestSpan 9 = .ok (.iand, 1) := by decide +kernel
theorem dX5_longestSpan_10 : decode cX5_longestSpan 10 = .ok (.istore_n 3, 1) := by decide +kernel
theorem dX5_longestSpan_11 : decode cX5_longestSpan 11 = .ok (.iconst 0, 1) := by decide +kernel
theorem dX5_longestSpan_12 : decode cX5_longestSpan 12 = .ok (.istore 4, 2) := by decide +kernel
theorem dX5_longestSpan_14 : decode cX5_longestSpan 14 = .ok (.iconst 0, 1) := by decide +kernel
theorem dX5_longestSpan_15 : decode cX5_longestSpan 15 = .ok (.istore 5, 2) := by decide +kernel
theorem dX5_longestSpan_17 : decode cX5_longestSpan 17 = .ok (.iconst 0, 1) := by decide +kernel
theorem dX5_longestSpan_18 : decode cX5_longestSpan 18 = .ok (.istore 6, 2) := by decide +kernel
theorem dX5_longestSpan_20 : decode cX5_longestSpan 20 = .ok (.iload 6, 2) := by decide +kernel
theorem dX5_longestSpan_22 : decode cX5_longestSpan 22 = .ok (.bipush 99, 2) := by decide +kernel
theorem dX5_longestSpan_24 : decode cX5_longestSpan 24 = .ok (.if_icmp .gt 41, 3) := by decide +kernel
theorem dX5_longestSpan_27 : decode cX5_longestSpan 27 = .ok (.iload_n 3, 1) := by decide +kernel
theorem dX5_longestSpan_28 : decode cX5_longestSpan 28 = .ok (.aload_n 0, 1) := by decide +kernel
theorem dX5_longestSpan_29 : decode cX5_longestSpan 29 = .ok (.aload_n 1, 1) := by decide +kernel
theorem dX5_longestSpan_30 : decode cX5_longestSpan 30 = .ok (.iload 6, 2) := by decide +kernel
theorem dX5_longestSpan_32 : decode cX5_longestSpan 32 = .ok (.iconst 1, 1) := by decide +kernel
theorem dX5_longestSpan_33 : decode cX5_longestSpan 33 = .ok (.invokevirtual 95, 3) := by decide +kernel
theorem dX5_longestSpan_36 : decode cX5_longestSpan 36 = .ok (.iand, 1) := by decide +kernel
theorem dX5_longestSpan_37 : decode cX5_longestSpan 37 = .ok (.ifCond .ne 10, 3) := by decide +kernel
theorem dX5_longestSpan_40 : decode cX5_longestSpan 40 = .ok (.iload 5, 2) := by decide +kernel
theorem dX5_longestSpan_42 : decode cX5_longestSpan 42 = .ok (.iconst 1, 1) := by decide +kernel
theorem dX5_longestSpan_43 : decode cX5_longestSpan 43 = .ok (.iadd, 1) := by decide +kernel
theorem dX5_longestSpan_44 : decode cX5_longestSpan 44 = .ok (.goto 4, 3) := by decide +kernel
theorem dX5_longestSpan_47 : decode cX5_longestSpan 47 = .ok (.iconst 0, 1) := by decide +kernel
theorem dX5_longestSpan_48 : decode cX5_longestSpan 48 = .ok (.istore 5, 2) := by decide +kernel
theorem dX5_longestSpan_50 : decode cX5_longestSpan 50 = .ok (.iload 4, 2) := by decide +kernel
theorem dX5_longestSpan_52 : decode cX5_longestSpan 52 = .ok (.iload 5, 2) := by decide +kernel
theorem dX5_longestSpan_54 : decode cX5_longestSpan 54 = .ok (.invokestatic 102, 3) := by decide +kernel
theorem dX5_longestSpan_57 : decode cX5_longestSpan 57 = .ok (.istore 4, 2) := by decide +kernel
theorem dX5_longestSpan_59 : decode cX5_longestSpan 59 = .ok (.iinc 6 1, 3) := by decide +kernel
theorem dX5_longestSpan_62 : decode cX5_longestSpan 62 = .ok (.goto (-42), 3) := by decide +kernel
theorem dX5_longestSpan_65 : decode cX5_longestSpan 65 = .ok (.iload 4, 2) := by decide +kernel
theorem dX5_longestSpan_67 : decode cX5_longestSpan 67 = .ok (.ireturn, 1) := by decide +kernel
theorem dX5_wholeLaughs_0 : decode cX5_wholeLaughs 0 = .ok (.iconst 0, 1) := by decide +kernel
theorem dX5_wholeLaughs_1 : decode cX5_wholeLaughs 1 = .ok (.istore 4, 2) := by decide +kernel
theorem dX5_wholeLaughs_3 : decode cX5_wholeLaughs 3 = .ok (.iconst 0, 1) := by decide +kernel
theorem dX5_wholeLaughs_4 : decode cX5_wholeLaughs 4 = .ok (.istore 5, 2) := by decide +kernel
theorem dX5_wholeLaughs_6 : decode cX5_wholeLaughs 6 = .ok (.iload 5, 2) := by decide +kernel
theorem dX5_wholeLaughs_8 : decode cX5_wholeLaughs 8 = .ok (.aload_n 1, 1) := by decide +kernel
theorem dX5_wholeLaughs_9 : decode cX5_wholeLaughs 9 = .ok (.getfield 72, 3) := by decide +kernel
theorem dX5_wholeLaughs_12 : decode cX5_wholeLaughs 12 = .ok (.if_icmp .ge 21, 3) := by decide +kernel
theorem dX5_wholeLaughs_15 : decode cX5_wholeLaughs 15 = .ok (.iload 4, 2) := by decide +kernel
theorem dX5_wholeLaughs_17 : decode cX5_wholeLaughs 17 = .ok (.aload_n 1, 1) := by decide +kernel
theorem dX5_wholeLaughs_18 : decode cX5_wholeLaughs 18 = .ok (.getfield 77, 3) := by decide +kernel
theorem dX5_wholeLaughs_21 : decode cX5_wholeLaughs 21 = .ok (.iload 5, 2) := by decide +kernel
theorem dX5_wholeLaughs_23 : decode cX5_wholeLaughs 23 = .ok (.iaload, 1) := by decide +kernel
theorem dX5_wholeLaughs_24 : decode cX5_wholeLaughs 24 = .ok (.iadd, 1) := by decide +kernel
theorem dX5_wholeLaughs_25 : decode cX5_wholeLaughs 25 = .ok (.istore 4, 2) := by decide +kernel
theorem dX5_wholeLaughs_27 : decode cX5_wholeLaughs 27 = .ok (.iinc 5 1, 3) := by decide +kernel
theorem dX5_wholeLaughs_30 : decode cX5_wholeLaughs 30 = .ok (.goto (-24), 3) := by decide +kernel
theorem dX5_wholeLaughs_33 : decode cX5_wholeLaughs 33 = .ok (.iload 4, 2) := by decide +kernel
theorem dX5_wholeLaughs_35 : decode cX5_wholeLaughs 35 = .ok (.ifCond .gt 5, 3) := by decide +kernel
theorem dX5_wholeLaughs_38 : decode cX5_wholeLaughs 38 = .ok (.iconst 0, 1) := by decide +kernel
theorem dX5_wholeLaughs_39 : decode cX5_wholeLaughs 39 = .ok (.ireturn, 1) := by decide +kernel
theorem dX5_wholeLaughs_40 : decode cX5_wholeLaughs 40 = .ok (.iload_n 2, 1) := by decide +kernel
theorem dX5_wholeLaughs_41 : decode cX5_wholeLaughs 41 = .ok (.istore 5, 2) := by decide +kernel
theorem dX5_wholeLaughs_43 : decode cX5_wholeLaughs 43 = .ok (.iconst 0, 1) := by decide +kernel
theorem dX5_wholeLaughs_44 : decode cX5_wholeLaughs 44 = .ok (.istore 6, 2) := by decide +kernel
theorem dX5_wholeLaughs_46 : decode cX5_wholeLaughs 46 = .ok (.iload_n 2, 1) := by decide +kernel
theorem dX5_wholeLaughs_47 : decode cX5_wholeLaughs 47 = .ok (.aload_n 1, 1) := by decide +kernel
theorem dX5_wholeLaughs_48 : decode cX5_wholeLaughs 48 = .ok (.getfield 77, 3) := by decide +kernel
theorem dX5_wholeLaughs_51 : decode cX5_wholeLaughs 51 = .ok (.iload_n 3, 1) := by decide +kernel
theorem dX5_wholeLaughs_52 : decode cX5_wholeLaughs 52 = .ok (.iaload, 1) := by decide +kernel
theorem dX5_wholeLaughs_53 : decode cX5_wholeLaughs 53 = .ok (.imul, 1) := by decide +kernel
theorem dX5_wholeLaughs_54 : decode cX5_wholeLaughs 54 = .ok (.iload 4, 2) := by decide +kernel
theorem dX5_wholeLaughs_56 : decode cX5_wholeLaughs 56 = .ok (.irem, 1) := by decide +kernel
theorem dX5_wholeLaughs_57 : decode cX5_wholeLaughs 57 = .ok (.istore 7, 2) := by decide +kernel
theorem dX5_wholeLaughs_59 : decode cX5_wholeLaughs 59 = .ok (.iconst 0, 1) := by decide +kernel
theorem dX5_wholeLaughs_60 : decode cX5_wholeLaughs 60 = .ok (.istore 8, 2) := by decide +kernel
theorem dX5_wholeLaughs_62 : decode cX5_wholeLaughs 62 = .ok (.iload 8, 2) := by decide +kernel
theorem dX5_wholeLaughs_64 : decode cX5_wholeLaughs 64 = .ok (.aload_n 1, 1) := by decide +kernel
theorem dX5_wholeLaughs_65 : decode cX5_wholeLaughs 65 = .ok (.getfield 72, 3) := by decide +kernel
theorem dX5_wholeLaughs_68 : decode cX5_wholeLaughs 68 = .ok (.if_icmp .ge 70, 3) := by decide +kernel
theorem dX5_wholeLaughs_71 : decode cX5_wholeLaughs 71 = .ok (.iload 5, 2) := by decide +kernel
theorem dX5_wholeLaughs_73 : decode cX5_wholeLaughs 73 = .ok (.iload_n 2, 1) := by decide +kernel
theorem dX5_wholeLaughs_74 : decode cX5_wholeLaughs 74 = .ok (.aload_n 1, 1) := by decide +kernel
theorem dX5_wholeLaughs_75 : decode cX5_wholeLaughs 75 = .ok (.getfield 77, 3) := by decide +kernel
theorem dX5_wholeLaughs_78 : decode cX5_wholeLaughs 78 = .ok (.iload 8, 2) := by decide +kernel
theorem dX5_wholeLaughs_80 : decode cX5_wholeLaughs 80 = .ok (.iaload, 1) := by decide +kernel
theorem dX5_wholeLaughs_81 : decode cX5_wholeLaughs 81 = .ok (.imul, 1) := by decide +kernel
theorem dX5_wholeLaughs_82 : decode cX5_wholeLaughs 82 = .ok (.iload 4, 2) := by decide +kernel
theorem dX5_wholeLaughs_84 : decode cX5_wholeLaughs 84 = .ok (.idiv, 1) := by decide +kernel
theorem dX5_wholeLaughs_85 : decode cX5_wholeLaughs 85 = .ok (.isub, 1) := by decide +kernel
theorem dX5_wholeLaughs_86 : decode cX5_wholeLaughs 86 = .ok (.istore 5, 2) := by decide +kernel
theorem dX5_wholeLaughs_88 : decode cX5_wholeLaughs 88 = .ok (.iload_n 2, 1) := by decide +kernel
theorem dX5_wholeLaughs_89 : decode cX5_wholeLaughs 89 = .ok (.aload_n 1, 1) := by decide +kernel
theorem dX5_wholeLaughs_90 : decode cX5_wholeLaughs 90 = .ok (.getfield 77, 3) := by decide +kernel
theorem dX5_wholeLaughs_93 : decode cX5_wholeLaughs 93 = .ok (.iload 8, 2) := by decide +kernel
theorem dX5_wholeLaughs_95 : decode cX5_wholeLaughs 95 = .ok (.iaload, 1) := by decide +kernel
theorem dX5_wholeLaughs_96 : decode cX5_wholeLaughs 96 = .ok (.imul, 1) := by decide +kernel
theorem dX5_wholeLaughs_97 : decode cX5_wholeLaughs 97 = .ok (.iload 4, 2) := by decide +kernel
theorem dX5_wholeLaughs_99 : decode cX5_wholeLaughs 99 = .ok (.irem, 1) := by decide +kernel
theorem dX5_wholeLaughs_100 : decode cX5_wholeLaughs 100 = .ok (.istore 9, 2) := by decide +kernel
theorem dX5_wholeLaughs_102 : decode cX5_wholeLaughs 102 = .ok (.iload 6, 2) := by decide +kernel
theorem dX5_wholeLaughs_104 : decode cX5_wholeLaughs 104 = .ok (.iload 9, 2) := by decide +kernel
theorem dX5_wholeLaughs_106 : decode cX5_wholeLaughs 106 = .ok (.iload 7, 2) := by decide +kernel
theorem dX5_wholeLaughs_108 : decode cX5_wholeLaughs 108 = .ok (.if_icmp .gt 16, 3) := by decide +kernel
theorem dX5_wholeLaughs_111 : decode cX5_wholeLaughs 111 = .ok (.iload 9, 2) := by decide +kernel
theorem dX5_wholeLaughs_113 : decode cX5_wholeLaughs 113 = .ok (.iload 7, 2) := by decide +kernel
theorem dX5_wholeLaughs_115 : decode cX5_wholeLaughs 115 = .ok (.if_icmp .ne 13, 3) := by decide +kernel
theorem dX5_wholeLaughs_118 : decode cX5_wholeLaughs 118 = .ok (.iload 8, 2) := by decide +kernel
theorem dX5_wholeLaughs_120 : decode cX5_wholeLaughs 120 = .ok (.iload_n 3, 1) := by decide +kernel
theorem dX5_wholeLaughs_121 : decode cX5_wholeLaughs 121 = .ok (.if_icmp .ge 7, 3) := by decide +kernel
theorem dX5_wholeLaughs_124 : decode cX5_wholeLaughs 124 = .ok (.iconst 1, 1) := by decide +kernel
theorem dX5_wholeLaughs_125 : decode cX5_wholeLaughs 125 = .ok (.goto 4, 3) := by decide +kernel
theorem dX5_wholeLaughs_128 : decode cX5_wholeLaughs 128 = .ok (.iconst 0, 1) := by decide +kernel
theorem dX5_wholeLaughs_129 : decode cX5_wholeLaughs 129 = .ok (.iadd, 1) := by decide +kernel
theorem dX5_wholeLaughs_130 : decode cX5_wholeLaughs 130 = .ok (.istore 6, 2) := by decide +kernel
theorem dX5_wholeLaughs_132 : decode cX5_wholeLaughs 132 = .ok (.iinc 8 1, 3) := by decide +kernel
theorem dX5_wholeLaughs_135 : decode cX5_wholeLaughs 135 = .ok (.goto (-73), 3) := by decide +kernel
theorem dX5_wholeLaughs_138 : decode cX5_wholeLaughs 138 = .ok (.iload_n 2, 1) := by decide +kernel
theorem dX5_wholeLaughs_139 : decode cX5_wholeLaughs 139 = .ok (.aload_n 1, 1) := by decide +kernel
theorem dX5_wholeLaughs_140 : decode cX5_wholeLaughs 140 = .ok (.getfield 77, 3) := by decide +kernel
theorem dX5_wholeLaughs_143 : decode cX5_wholeLaughs 143 = .ok (.iload_n 3, 1) := by decide +kernel
theorem dX5_wholeLaughs_144 : decode cX5_wholeLaughs 144 = .ok (.iaload, 1) := by decide +kernel
theorem dX5_wholeLaughs_145 : decode cX5_wholeLaughs 145 = .ok (.imul, 1) := by decide +kernel
theorem dX5_wholeLaughs_146 : decode cX5_wholeLaughs 146 = .ok (.iload 4, 2) := by decide +kernel
theorem dX5_wholeLaughs_148 : decode cX5_wholeLaughs 148 = .ok (.idiv, 1) := by decide +kernel
theorem dX5_wholeLaughs_149 : decode cX5_wholeLaughs 149 = .ok (.iload 6, 2) := by decide +kernel
theorem dX5_wholeLaughs_151 : decode cX5_wholeLaughs 151 = .ok (.iload 5, 2) := by decide +kernel
theorem dX5_wholeLaughs_153 : decode cX5_wholeLaughs 153 = .ok (.if_icmp .ge 7, 3) := by decide +kernel
theorem dX5_wholeLaughs_156 : decode cX5_wholeLaughs 156 = .ok (.iconst 1, 1) := by decide +kernel
theorem dX5_wholeLaughs_157 : decode cX5_wholeLaughs 157 = .ok (.goto 4, 3) := by decide +kernel
theorem dX5_wholeLaughs_160 : decode cX5_wholeLaughs 160 = .ok (.iconst 0, 1) := by decide +kernel
theorem dX5_wholeLaughs_161 : decode cX5_wholeLaughs 161 = .ok (.iadd, 1) := by decide +kernel
theorem dX5_wholeLaughs_162 : decode cX5_wholeLaughs 162 = .ok (.ireturn, 1) := by decide +kernel
theorem dX5_laughsByTurns_0 : decode cX5_laughsByTurns 0 = .ok (.iconst 0, 1) := by decide +kernel
theorem dX5_laughsByTurns_1 : decode cX5_laughsByTurns 1 = .ok (.istore 4, 2) := by decide +kernel
theorem dX5_laughsByTurns_3 : decode cX5_laughsByTurns 3 = .ok (.iload 4, 2) := by decide +kernel
theorem dX5_laughsByTurns_5 : decode cX5_laughsByTurns 5 = .ok (.bipush 6, 2) := by decide +kernel
theorem dX5_laughsByTurns_7 : decode cX5_laughsByTurns 7 = .ok (.if_icmp .ge 17, 3) := by decide +kernel
theorem dX5_laughsByTurns_10 : decode cX5_laughsByTurns 10 = .ok (.aload_n 0, 1) := by decide +kernel
theorem dX5_laughsByTurns_11 : decode cX5_laughsByTurns 11 = .ok (.getfield 15, 3) := by decide +kernel
theorem dX5_laughsByTurns_14 : decode cX5_laughsByTurns 14 = .ok (.iload 4, 2) := by decide +kernel
theorem dX5_laughsByTurns_16 : decode cX5_laughsByTurns 16 = .ok (.iconst 0, 1) := by decide +kernel
theorem dX5_laughsByTurns_17 : decode cX5_laughsByTurns 17 = .ok (.iastore, 1) := by decide +kernel
theorem dX5_laughsByTurns_18 : decode cX5_laughsByTurns 18 = .ok (.iinc 4 1, 3) := by decide +kernel
theorem dX5_laughsByTurns_21 : decode cX5_laughsByTurns 21 = .ok (.goto (-18), 3) := by decide +kernel
theorem dX5_laughsByTurns_24 : decode cX5_laughsByTurns 24 = .ok (.iconst 0, 1) := by decide +kernel
theorem dX5_laughsByTurns_25 : decode cX5_laughsByTurns 25 = .ok (.istore 4, 2) := by decide +kernel
theorem dX5_laughsByTurns_27 : decode cX5_laughsByTurns 27 = .ok (.iload 4, 2) := by decide +kernel
theorem dX5_laughsByTurns_29 : decode cX5_laughsByTurns 29 = .ok (.iload_n 2, 1) := by decide +kernel
theorem dX5_laughsByTurns_30 : decode cX5_laughsByTurns 30 = .ok (.if_icmp .ge 99, 3) := by decide +kernel
theorem dX5_laughsByTurns_33 : decode cX5_laughsByTurns 33 = .ok (.iconst 0, 1) := by decide +kernel
theorem dX5_laughsByTurns_34 : decode cX5_laughsByTurns 34 = .ok (.istore 5, 2) := by decide +kernel
theorem dX5_laughsByTurns_36 : decode cX5_laughsByTurns 36 = .ok (.iconst 1, 1) := by decide +kernel
theorem dX5_laughsByTurns_37 : decode cX5_laughsByTurns 37 = .ok (.istore 6, 2) := by decide +kernel
theorem dX5_laughsByTurns_39 : decode cX5_laughsByTurns 39 = .ok (.iload 6, 2) := by decide +kernel
theorem dX5_laughsByTurns_41 : decode cX5_laughsByTurns 41 = .ok (.aload_n 1, 1) := by decide +kernel
theorem dX5_laughsByTurns_42 : decode cX5_laughsByTurns 42 = .ok (.getfield 72, 3) := by decide +kernel
theorem dX5_laughsByTurns_45 : decode cX5_laughsByTurns 45 = .ok (.if_icmp .ge 67, 3) := by decide +kernel
theorem dX5_laughsByTurns_48 : decode cX5_laughsByTurns 48 = .ok (.aload_n 1, 1) := by decide +kernel
theorem dX5_laughsByTurns_49 : decode cX5_laughsByTurns 49 = .ok (.getfield 77, 3) := by decide +kernel
theorem dX5_laughsByTurns_52 : decode cX5_laughsByTurns 52 = .ok (.iload 6, 2) := by decide +kernel
theorem dX5_laughsByTurns_54 : decode cX5_laughsByTurns 54 = .ok (.iaload, 1) := by decide +kernel
theorem dX5_laughsByTurns_55 : decode cX5_laughsByTurns 55 = .ok (.aload_n 0, 1) := by decide +kernel
theorem dX5_laughsByTurns_56 : decode cX5_laughsByTurns 56 = .ok (.getfield 15, 3) := by decide +kernel
theorem dX5_laughsByTurns_59 : decode cX5_laughsByTurns 59 = .ok (.iload 5, 2) := by decide +kernel
theorem dX5_laughsByTurns_61 : decode cX5_laughsByTurns 61 = .ok (.iaload, 1) := by decide +kernel
theorem dX5_laughsByTurns_62 : decode cX5_laughsByTurns 62 = .ok (.iconst 1, 1) := by decide +kernel
theorem dX5_laughsByTurns_63 : decode cX5_laughsByTurns 63 = .ok (.iadd, 1) := by decide +kernel
theorem dX5_laughsByTurns_64 : decode cX5_laughsByTurns 64 = .ok (.imul, 1) := by decide +kernel
theorem dX5_laughsByTurns_65 : decode cX5_laughsByTurns 65 = .ok (.aload_n 1, 1) := by decide +kernel
theorem dX5_laughsByTurns_66 : decode cX5_laughsByTurns 66 = .ok (.getfield 77, 3) := by decide +kernel
theorem dX5_laughsByTurns_69 : decode cX5_laughsByTurns 69 = .ok (.iload 5, 2) := by decide +kernel
theorem dX5_laughsByTurns_71 : decode cX5_laughsByTurns 71 = .ok (.iaload, 1) := by decide +kernel
theorem dX5_laughsByTurns_72 : decode cX5_laughsByTurns 72 = .ok (.aload_n 0, 1) := by decide +kernel
theorem dX5_laughsByTurns_73 : decode cX5_laughsByTurns 73 = .ok (.getfield 15, 3) := by decide +kernel
theorem dX5_laughsByTurns_76 : decode cX5_laughsByTurns 76 = .ok (.iload 6, 2) := by decide +kernel
theorem dX5_laughsByTurns_78 : decode cX5_laughsByTurns 78 = .ok (.iaload, 1) := by decide +kernel
theorem dX5_laughsByTurns_79 : decode cX5_laughsByTurns 79 = .ok (.iconst 1, 1) := by decide +kernel
theorem dX5_laughsByTurns_80 : decode cX5_laughsByTurns 80 = .ok (.iadd, 1) := by decide +kernel
theorem dX5_laughsByTurns_81 : decode cX5_laughsByTurns 81 = .ok (.imul, 1) := by decide +kernel
theorem dX5_laughsByTurns_82 : decode cX5_laughsByTurns 82 = .ok (.if_icmp .le 7, 3) := by decide +kernel
theorem dX5_laughsByTurns_85 : decode cX5_laughsByTurns 85 = .ok (.iconst 1, 1) := by decide +kernel
theorem dX5_laughsByTurns_86 : decode cX5_laughsByTurns 86 = .ok (.goto 4, 3) := by decide +kernel
theorem dX5_laughsByTurns_89 : decode cX5_laughsByTurns 89 = .ok (.iconst 0, 1) := by decide +kernel
theorem dX5_laughsByTurns_90 : decode cX5_laughsByTurns 90 = .ok (.istore 7, 2) := by decide +kernel
theorem dX5_laughsByTurns_92 : decode cX5_laughsByTurns 92 = .ok (.iload 7, 2) := by decide +kernel
theorem dX5_laughsByTurns_94 : decode cX5_laughsByTurns 94 = .ok (.ifCond .eq 8, 3) := by decide +kernel
theorem dX5_laughsByTurns_97 : decode cX5_laughsByTurns 97 = .ok (.iload 6, 2) := by decide +kernel
theorem dX5_laughsByTurns_99 : decode cX5_laughsByTurns 99 = .ok (.goto 5, 3) := by decide +kernel
theorem dX5_laughsByTurns_102 : decode cX5_laughsByTurns 102 = .ok (.iload 5, 2) := by decide +kernel
theorem dX5_laughsByTurns_104 : decode cX5_laughsByTurns 104 = .ok (.istore 5, 2) := by decide +kernel
theorem dX5_laughsByTurns_106 : decode cX5_laughsByTurns 106 = .ok (.iinc 6 1, 3) := by decide +kernel
theorem dX5_laughsByTurns_109 : decode cX5_laughsByTurns 109 = .ok (.goto (-70), 3) := by decide +kernel
theorem dX5_laughsByTurns_112 : decode cX5_laughsByTurns 112 = .ok (.aload_n 0, 1) := by decide +kernel
theorem dX5_laughsByTurns_113 : decode cX5_laughsByTurns 113 = .ok (.getfield 15, 3) := by decide +kernel
theorem dX5_laughsByTurns_116 : decode cX5_laughsByTurns 116 = .ok (.iload 5, 2) := by decide +kernel
theorem dX5_laughsByTurns_118 : decode cX5_laughsByTurns 118 = .ok (.dup2, 1) := by decide +kernel
theorem dX5_laughsByTurns_119 : decode cX5_laughsByTurns 119 = .ok (.iaload, 1) := by decide +kernel
theorem dX5_laughsByTurns_120 : decode cX5_laughsByTurns 120 = .ok (.iconst 1, 1) := by decide +kernel
theorem dX5_laughsByTurns_121 : decode cX5_laughsByTurns 121 = .ok (.iadd, 1) := by decide +kernel
theorem dX5_laughsByTurns_122 : decode cX5_laughsByTurns 122 = .ok (.iastore, 1) := by decide +kernel
theorem dX5_laughsByTurns_123 : decode cX5_laughsByTurns 123 = .ok (.iinc 4 1, 3) := by decide +kernel
theorem dX5_laughsByTurns_126 : decode cX5_laughsByTurns 126 = .ok (.goto (-99), 3) := by decide +kernel
theorem dX5_laughsByTurns_129 : decode cX5_laughsByTurns 129 = .ok (.aload_n 0, 1) := by decide +kernel
theorem dX5_laughsByTurns_130 : decode cX5_laughsByTurns 130 = .ok (.getfield 15, 3) := by decide +kernel
theorem dX5_laughsByTurns_133 : decode cX5_laughsByTurns 133 = .ok (.iload_n 3, 1) := by decide +kernel
theorem dX5_laughsByTurns_134 : decode cX5_laughsByTurns 134 = .ok (.iaload, 1) := by decide +kernel
theorem dX5_laughsByTurns_135 : decode cX5_laughsByTurns 135 = .ok (.ireturn, 1) := by decide +kernel
theorem dX5_bestPrice_0 : decode cX5_bestPrice 0 = .ok (.iconst 0, 1) := by decide +kernel
theorem dX5_bestPrice_1 : decode cX5_bestPrice 1 = .ok (.istore_n 2, 1) := by decide +kernel
theorem dX5_bestPrice_2 : decode cX5_bestPrice 2 = .ok (.iconst 0, 1) := by decide +kernel
theorem dX5_bestPrice_3 : decode cX5_bestPrice 3 = .ok (.istore_n 3, 1) := by decide +kernel
theorem dX5_bestPrice_4 : decode cX5_bestPrice 4 = .ok (.iload_n 3, 1) := by decide +kernel
theorem dX5_bestPrice_5 : decode cX5_bestPrice 5 = .ok (.aload_n 1, 1) := by decide +kernel
theorem dX5_bestPrice_6 : decode cX5_bestPrice 6 = .ok (.getfield 72, 3) := by decide +kernel
theorem dX5_bestPrice_9 : decode cX5_bestPrice 9 = .ok (.if_icmp .ge 56, 3) := by decide +kernel
theorem dX5_bestPrice_12 : decode cX5_bestPrice 12 = .ok (.aload_n 1, 1) := by decide +kernel
theorem dX5_bestPrice_13 : decode cX5_bestPrice 13 = .ok (.getfield 77, 3) := by decide +kernel
theorem dX5_bestPrice_16 : decode cX5_bestPrice 16 = .ok (.iload_n 3, 1) := by decide +kernel
theorem dX5_bestPrice_17 : decode cX5_bestPrice 17 = .ok (.iaload, 1) := by decide +kernel
theorem dX5_bestPrice_18 : decode cX5_bestPrice 18 = .ok (.istore 4, 2) := by decide +kernel
theorem dX5_bestPrice_20 : decode cX5_bestPrice 20 = .ok (.aload_n 0, 1) := by decide +kernel
theorem dX5_bestPrice_21 : decode cX5_bestPrice 21 = .ok (.aload_n 1, 1) := by decide +kernel
theorem dX5_bestPrice_22 : decode cX5_bestPrice 22 = .ok (.iload 4, 2) := by decide +kernel
theorem dX5_bestPrice_24 : decode cX5_bestPrice 24 = .ok (.invokevirtual 105, 3) := by decide +kernel
theorem dX5_bestPrice_27 : decode cX5_bestPrice 27 = .ok (.aload_n 0, 1) := by decide +kernel
theorem dX5_bestPrice_28 : decode cX5_bestPrice 28 = .ok (.aload_n 1, 1) := by decide +kernel
theorem dX5_bestPrice_29 : decode cX5_bestPrice 29 = .ok (.iload_n 2, 1) := by decide +kernel
theorem dX5_bestPrice_30 : decode cX5_bestPrice 30 = .ok (.invokevirtual 105, 3) := by decide +kernel
theorem dX5_bestPrice_33 : decode cX5_bestPrice 33 = .ok (.isub, 1) := by decide +kernel
theorem dX5_bestPrice_34 : decode cX5_bestPrice 34 = .ok (.istore 5, 2) := by decide +kernel
theorem dX5_bestPrice_36 : decode cX5_bestPrice 36 = .ok (.iload 5, 2) := by decide +kernel
theorem dX5_bestPrice_38 : decode cX5_bestPrice 38 = .ok (.ifCond .gt 14, 3) := by decide +kernel
theorem dX5_bestPrice_41 : decode cX5_bestPrice 41 = .ok (.iload 5, 2) := by decide +kernel
theorem dX5_bestPrice_43 : decode cX5_bestPrice 43 = .ok (.ifCond .ne 14, 3) := by decide +kernel
theorem dX5_bestPrice_46 : decode cX5_bestPrice 46 = .ok (.iload 4, 2) := by decide +kernel
theorem dX5_bestPrice_48 : decode cX5_bestPrice 48 = .ok (.iload_n 2, 1) := by decide +kernel
theorem dX5_bestPrice_49 : decode cX5_bestPrice 49 = .ok (.if_icmp .ge 8, 3) := by decide +kernel
theorem dX5_bestPrice_52 : decode cX5_bestPrice 52 = .ok (.iload 4, 2) := by decide +kernel
theorem dX5_bestPrice_54 : decode cX5_bestPrice 54 = .ok (.goto 4, 3) := by decide +kernel
theorem dX5_bestPrice_57 : decode cX5_bestPrice 57 = .ok (.iload_n 2, 1) := by decide +kernel
theorem dX5_bestPrice_58 : decode cX5_bestPrice 58 = .ok (.istore_n 2, 1) := by decide +kernel
theorem dX5_bestPrice_59 : decode cX5_bestPrice 59 = .ok (.iinc 3 1, 3) := by decide +kernel
theorem dX5_bestPrice_62 : decode cX5_bestPrice 62 = .ok (.goto (-58), 3) := by decide +kernel
theorem dX5_bestPrice_65 : decode cX5_bestPrice 65 = .ok (.iload_n 2, 1) := by decide +kernel
theorem dX5_bestPrice_66 : decode cX5_bestPrice 66 = .ok (.ireturn, 1) := by decide +kernel
theorem dX5_takings_0 : decode cX5_takings 0 = .ok (.iconst 0, 1) := by decide +kernel
theorem dX5_takings_1 : decode cX5_takings 1 = .ok (.istore_n 3, 1) := by decide +kernel
theorem dX5_takings_2 : decode cX5_takings 2 = .ok (.iconst 0, 1) := by decide +kernel
theorem dX5_takings_3 : decode cX5_takings 3 = .ok (.istore 4, 2) := by decide +kernel
theorem dX5_takings_5 : decode cX5_takings 5 = .ok (.iload 4, 2) := by decide +kernel
theorem dX5_takings_7 : decode cX5_takings 7 = .ok (.aload_n 1, 1) := by decide +kernel
theorem dX5_takings_8 : decode cX5_takings 8 = .ok (.getfield 72, 3) := by decide +kernel
theorem dX5_takings_11 : decode cX5_takings 11 = .ok (.if_icmp .ge 28, 3) := by decide +kernel
theorem dX5_takings_14 : decode cX5_takings 14 = .ok (.iload_n 3, 1) := by decide +kernel
theorem dX5_takings_15 : decode cX5_takings 15 = .ok (.aload_n 1, 1) := by decide +kernel
theorem dX5_takings_16 : decode cX5_takings 16 = .ok (.getfield 77, 3) := by decide +kernel
theorem dX5_takings_19 : decode cX5_takings 19 = .ok (.iload 4, 2) := by decide +kernel
theorem dX5_takings_21 : decode cX5_takings 21 = .ok (.iaload, 1) := by decide +kernel
theorem dX5_takings_22 : decode cX5_takings 22 = .ok (.iload_n 2, 1) := by decide +kernel
theorem dX5_takings_23 : decode cX5_takings 23 = .ok (.if_icmp .lt 7, 3) := by decide +kernel
theorem dX5_takings_26 : decode cX5_takings 26 = .ok (.iload_n 2, 1) := by decide +kernel
theorem dX5_takings_27 : decode cX5_takings 27 = .ok (.goto 4, 3) := by decide +kernel
theorem dX5_takings_30 : decode cX5_takings 30 = .ok (.iconst 0, 1) := by decide +kernel
theorem dX5_takings_31 : decode cX5_takings 31 = .ok (.iadd, 1) := by decide +kernel
theorem dX5_takings_32 : decode cX5_takings 32 = .ok (.istore_n 3, 1) := by decide +kernel
theorem dX5_takings_33 : decode cX5_takings 33 = .ok (.iinc 4 1, 3) := by decide +kernel
theorem dX5_takings_36 : decode cX5_takings 36 = .ok (.goto (-31), 3) := by decide +kernel
theorem dX5_takings_39 : decode cX5_takings 39 = .ok (.iload_n 3, 1) := by decide +kernel
theorem dX5_takings_40 : decode cX5_takings 40 = .ok (.ireturn, 1) := by decide +kernel
theorem dX5_wrongWays_0 : decode cX5_wrongWays 0 = .ok (.lconst 0, 1) := by decide +kernel
theorem dX5_wrongWays_1 : decode cX5_wrongWays 1 = .ok (.lstore 4, 2) := by decide +kernel
theorem dX5_wrongWays_3 : decode cX5_wrongWays 3 = .ok (.lconst 1, 1) := by decide +kernel
theorem dX5_wrongWays_4 : decode cX5_wrongWays 4 = .ok (.lstore 6, 2) := by decide +kernel
theorem dX5_wrongWays_6 : decode cX5_wrongWays 6 = .ok (.iconst 0, 1) := by decide +kernel
theorem dX5_wrongWays_7 : decode cX5_wrongWays 7 = .ok (.istore 8, 2) := by decide +kernel
theorem dX5_wrongWays_9 : decode cX5_wrongWays 9 = .ok (.iload 8, 2) := by decide +kernel
theorem dX5_wrongWays_11 : decode cX5_wrongWays 11 = .ok (.iload_n 1, 1) := by decide +kernel
theorem dX5_wrongWays_12 : decode cX5_wrongWays 12 = .ok (.if_icmp .gt 61, 3) := by decide +kernel
theorem dX5_wrongWays_15 : decode cX5_wrongWays 15 = .ok (.iload 8, 2) := by decide +kernel
theorem dX5_wrongWays_17 : decode cX5_wrongWays 17 = .ok (.iload_n 2, 1) := by decide +kernel
theorem dX5_wrongWays_18 : decode cX5_wrongWays 18 = .ok (.if_icmp .lt 33, 3) := by decide +kernel
theorem dX5_wrongWays_21 : decode cX5_wrongWays 21 = .ok (.lload 4, 2) := by decide +kernel
theorem dX5_wrongWays_23 : decode cX5_wrongWays 23 = .ok (.lload 6, 2) := by decide +kernel
theorem dX5_wrongWays_25 : decode cX5_wrongWays 25 = .ok (.aload_n 0, 1) := by decide +kernel
theorem dX5_wrongWays_26 : decode cX5_wrongWays 26 = .ok (.iload_n 3, 1) := by decide +kernel
theorem dX5_wrongWays_27 : decode cX5_wrongWays 27 = .ok (.i2l, 1) := by decide +kernel
theorem dX5_wrongWays_28 : decode cX5_wrongWays 28 = .ok (.iload 8, 2) := by decide +kernel
theorem dX5_wrongWays_30 : decode cX5_wrongWays 30 = .ok (.invokevirtual 109, 3) := by decide +kernel
theorem dX5_wrongWays_33 : decode cX5_wrongWays 33 = .ok (.lmul, 1) := by decide +kernel
theorem dX5_wrongWays_34 : decode cX5_wrongWays 34 = .ok (.aload_n 0, 1) := by decide +kernel
theorem dX5_wrongWays_35 : decode cX5_wrongWays 35 = .ok (.bipush 100, 2) := by decide +kernel
theorem dX5_wrongWays_37 : decode cX5_wrongWays 37 = .ok (.iload_n 3, 1) := by decide +kernel
theorem dX5_wrongWays_38 : decode cX5_wrongWays 38 = .ok (.isub, 1) := by decide +kernel
theorem dX5_wrongWays_39 : decode cX5_wrongWays 39 = .ok (.i2l, 1) := by decide +kernel
theorem dX5_wrongWays_40 : decode cX5_wrongWays 40 = .ok (.iload_n 1, 1) := by decide +kernel
theorem dX5_wrongWays_41 : decode cX5_wrongWays 41 = .ok (.iload 8, 2) := by decide +kernel
theorem dX5_wrongWays_43 : decode cX5_wrongWays 43 = .ok (.isub, 1) := by decide +kernel
theorem dX5_wrongWays_44 : decode cX5_wrongWays 44 = .ok (.invokevirtual 109, 3) := by decide +kernel
theorem dX5_wrongWays_47 : decode cX5_wrongWays 47 = .ok (.lmul, 1) := by decide +kernel
theorem dX5_wrongWays_48 : decode cX5_wrongWays 48 = .ok (.ladd, 1) := by decide +kernel
theorem dX5_wrongWays_49 : decode cX5_wrongWays 49 = .ok (.lstore 4, 2) := by decide +kernel
theorem dX5_wrongWays_51 : decode cX5_wrongWays 51 = .ok (.lload 6, 2) := by decide +kernel
theorem dX5_wrongWays_53 : decode cX5_wrongWays 53 = .ok (.iload_n 1, 1) := by decide +kernel
theorem dX5_wrongWays_54 : decode cX5_wrongWays 54 = .ok (.iload 8, 2) := by decide +kernel
theorem dX5_wrongWays_56 : decode cX5_wrongWays 56 = .ok (.isub, 1) := by decide +kernel
theorem dX5_wrongWays_57 : decode cX5_wrongWays 57 = .ok (.i2l, 1) := by decide +kernel
theorem dX5_wrongWays_58 : decode cX5_wrongWays 58 = .ok (.lmul, 1) := by decide +kernel
theorem dX5_wrongWays_59 : decode cX5_wrongWays 59 = .ok (.iload 8, 2) := by decide +kernel
theorem dX5_wrongWays_61 : decode cX5_wrongWays 61 = .ok (.iconst 1, 1) := by decide +kernel
theorem dX5_wrongWays_62 : decode cX5_wrongWays 62 = .ok (.iadd, 1) := by decide +kernel
theorem dX5_wrongWays_63 : decode cX5_wrongWays 63 = .ok (.i2l, 1) := by decide +kernel
theorem dX5_wrongWays_64 : decode cX5_wrongWays 64 = .ok (.ldiv, 1) := by decide +kernel
theorem dX5_wrongWays_65 : decode cX5_wrongWays 65 = .ok (.lstore 6, 2) := by decide +kernel
theorem dX5_wrongWays_67 : decode cX5_wrongWays 67 = .ok (.iinc 8 1, 3) := by decide +kernel
theorem dX5_wrongWays_70 : decode cX5_wrongWays 70 = .ok (.goto (-61), 3) := by decide +kernel
theorem dX5_wrongWays_73 : decode cX5_wrongWays 73 = .ok (.lload 4, 2) := by decide +kernel
theorem dX5_wrongWays_75 : decode cX5_wrongWays 75 = .ok (.lreturn, 1) := by decide +kernel
theorem dX5_power_0 : decode cX5_power 0 = .ok (.lconst 1, 1) := by decide +kernel
theorem dX5_power_1 : decode cX5_power 1 = .ok (.lstore 4, 2) := by decide +kernel
theorem dX5_power_3 : decode cX5_power 3 = .ok (.iconst 0, 1) := by decide +kernel
theorem dX5_power_4 : decode cX5_power 4 = .ok (.istore 6, 2) := by decide +kernel
theorem dX5_power_6 : decode cX5_power 6 = .ok (.iload 6, 2) := by decide +kernel
theorem dX5_power_8 : decode cX5_power 8 = .ok (.iload_n 3, 1) := by decide +kernel
theorem dX5_power_9 : decode cX5_power 9 = .ok (.if_icmp .ge 15, 3) := by decide +kernel
theorem dX5_power_12 : decode cX5_power 12 = .ok (.lload 4, 2) := by decide +kernel
theorem dX5_power_14 : decode cX5_power 14 = .ok (.lload_n 1, 1) := by decide +kernel
theorem dX5_power_15 : decode cX5_power 15 = .ok (.lmul, 1) := by decide +kernel
theorem dX5_power_16 : decode cX5_power 16 = .ok (.lstore 4, 2) := by decide +kernel
theorem dX5_power_18 : decode cX5_power 18 = .ok (.iinc 6 1, 3) := by decide +kernel
theorem dX5_power_21 : decode cX5_power 21 = .ok (.goto (-15), 3) := by decide +kernel
theorem dX5_power_24 : decode cX5_power 24 = .ok (.lload 4, 2) := by decide +kernel
theorem dX5_power_26 : decode cX5_power 26 = .ok (.lreturn, 1) := by decide +kernel
theorem dX5_commonPart_0 : decode cX5_commonPart 0 = .ok (.iconst 0, 1) := by decide +kernel
theorem dX5_commonPart_1 : decode cX5_commonPart 1 = .ok (.istore 5, 2) := by decide +kernel
theorem dX5_commonPart_3 : decode cX5_commonPart 3 = .ok (.iload 5, 2) := by decide +kernel
theorem dX5_commonPart_5 : decode cX5_commonPart 5 = .ok (.sipush 1000, 3) := by decide +kernel
theorem dX5_commonPart_8 : decode cX5_commonPart 8 = .ok (.if_icmp .ge 25, 3) := by decide +kernel
theorem dX5_commonPart_11 : decode cX5_commonPart 11 = .ok (.lload_n 3, 1) := by decide +kernel
theorem dX5_commonPart_12 : decode cX5_commonPart 12 = .ok (.lconst 0, 1) := by decide +kernel
theorem dX5_commonPart_13 : decode cX5_commonPart 13 = .ok (.lcmp, 1) := by decide +kernel
theorem dX5_commonPart_14 : decode cX5_commonPart 14 = .ok (.ifCond .eq 19, 3) := by decide +kernel
theorem dX5_commonPart_17 : decode cX5_commonPart 17 = .ok (.lload_n 1, 1) := by decide +kernel
theorem dX5_commonPart_18 : decode cX5_commonPart 18 = .ok (.lload_n 3, 1) := by decide +kernel
theorem dX5_commonPart_19 : decode cX5_commonPart 19 = .ok (.lrem, 1) := by decide +kernel
theorem dX5_commonPart_20 : decode cX5_commonPart 20 = .ok (.lstore 6, 2) := by decide +kernel
theorem dX5_commonPart_22 : decode cX5_commonPart 22 = .ok (.lload_n 3, 1) := by decide +kernel
theorem dX5_commonPart_23 : decode cX5_commonPart 23 = .ok (.lstore_n 1, 1) := by decide +kernel
theorem dX5_commonPart_24 : decode cX5_commonPart 24 = .ok (.lload 6, 2) := by decide +kernel
theorem dX5_commonPart_26 : decode cX5_commonPart 26 = .ok (.lstore_n 3, 1) := by decide +kernel
theorem dX5_commonPart_27 : decode cX5_commonPart 27 = .ok (.iinc 5 1, 3) := by decide +kernel
theorem dX5_commonPart_30 : decode cX5_commonPart 30 = .ok (.goto (-27), 3) := by decide +kernel
theorem dX5_commonPart_33 : decode cX5_commonPart 33 = .ok (.lload_n 1, 1) := by decide +kernel
theorem dX5_commonPart_34 : decode cX5_commonPart 34 = .ok (.lreturn, 1) := by decide +kernel
theorem dX5_eldestThere_0 : decode cX5_eldestThere 0 = .ok (.iconst (-1), 1) := by decide +kernel
theorem dX5_eldestThere_1 : decode cX5_eldestThere 1 = .ok (.istore_n 3, 1) := by decide +kernel
theorem dX5_eldestThere_2 : decode cX5_eldestThere 2 = .ok (.bipush 100, 2) := by decide +kernel
theorem dX5_eldestThere_4 : decode cX5_eldestThere 4 = .ok (.istore 4, 2) := by decide +kernel
theorem dX5_eldestThere_6 : decode cX5_eldestThere 6 = .ok (.iconst 0, 1) := by decide +kernel
theorem dX5_eldestThere_7 : decode cX5_eldestThere 7 = .ok (.istore 5, 2) := by decide +kernel
theorem dX5_eldestThere_9 : decode cX5_eldestThere 9 = .ok (.iload 5, 2) := by decide +kernel
theorem dX5_eldestThere_11 : decode cX5_eldestThere 11 = .ok (.aload_n 1, 1) := by decide +kernel
theorem dX5_eldestThere_12 : decode cX5_eldestThere 12 = .ok (.getfield 18, 3) := by decide +kernel
theorem dX5_eldestThere_15 : decode cX5_eldestThere 15 = .ok (.getfield 83, 3) := by decide +kernel
theorem dX5_eldestThere_18 : decode cX5_eldestThere 18 = .ok (.if_icmp .ge 53, 3) := by decide +kernel
theorem dX5_eldestThere_21 : decode cX5_eldestThere 21 = .ok (.aload_n 1, 1) := by decide +kernel
theorem dX5_eldestThere_22 : decode cX5_eldestThere 22 = .ok (.getfield 113, 3) := by decide +kernel
theorem dX5_eldestThere_25 : decode cX5_eldestThere 25 = .ok (.iload 5, 2) := by decide +kernel
theorem dX5_eldestThere_27 : decode cX5_eldestThere 27 = .ok (.iaload, 1) := by decide +kernel
theorem dX5_eldestThere_28 : decode cX5_eldestThere 28 = .ok (.iload_n 2, 1) := by decide +kernel
theorem dX5_eldestThere_29 : decode cX5_eldestThere 29 = .ok (.if_icmp .ne 36, 3) := by decide +kernel
theorem dX5_eldestThere_32 : decode cX5_eldestThere 32 = .ok (.aload_n 1, 1) := by decide +kernel
theorem dX5_eldestThere_33 : decode cX5_eldestThere 33 = .ok (.iload 5, 2) := by decide +kernel
theorem dX5_eldestThere_35 : decode cX5_eldestThere 35 = .ok (.invokevirtual 39, 3) := by decide +kernel
theorem dX5_eldestThere_38 : decode cX5_eldestThere 38 = .ok (.ifCond .eq 27, 3) := by decide +kernel
theorem dX5_eldestThere_41 : decode cX5_eldestThere 41 = .ok (.aload_n 1, 1) := by decide +kernel
theorem dX5_eldestThere_42 : decode cX5_eldestThere 42 = .ok (.getfield 92, 3) := by decide +kernel
theorem dX5_eldestThere_45 : decode cX5_eldestThere 45 = .ok (.iload 5, 2) := by decide +kernel
theorem dX5_eldestThere_47 : decode cX5_eldestThere 47 = .ok (.iaload, 1) := by decide +kernel
theorem dX5_eldestThere_48 : decode cX5_eldestThere 48 = .ok (.iload 4, 2) := by decide +kernel
theorem dX5_eldestThere_50 : decode cX5_eldestThere 50 = .ok (.if_icmp .ge 15, 3) := by decide +kernel
theorem dX5_eldestThere_53 : decode cX5_eldestThere 53 = .ok (.iload 5, 2) := by decide +kernel
theorem dX5_eldestThere_55 : decode cX5_eldestThere 55 = .ok (.istore_n 3, 1) := by decide +kernel
theorem dX5_eldestThere_56 : decode cX5_eldestThere 56 = .ok (.aload_n 1, 1) := by decide +kernel
theorem dX5_eldestThere_57 : decode cX5_eldestThere 57 = .ok (.getfield 92, 3) := by decide +kernel
theorem dX5_eldestThere_60 : decode cX5_eldestThere 60 = .ok (.iload 5, 2) := by decide +kernel
theorem dX5_eldestThere_62 : decode cX5_eldestThere 62 = .ok (.iaload, 1) := by decide +kernel
theorem dX5_eldestThere_63 : decode cX5_eldestThere 63 = .ok (.istore 4, 2) := by decide +kernel
theorem dX5_eldestThere_65 : decode cX5_eldestThere 65 = .ok (.iinc 5 1, 3) := by decide +kernel
theorem dX5_eldestThere_68 : decode cX5_eldestThere 68 = .ok (.goto (-59), 3) := by decide +kernel
theorem dX5_eldestThere_71 : decode cX5_eldestThere 71 = .ok (.iload_n 3, 1) := by decide +kernel
theorem dX5_eldestThere_72 : decode cX5_eldestThere 72 = .ok (.ireturn, 1) := by decide +kernel
theorem dX5_tensOfYears_0 : decode cX5_tensOfYears 0 = .ok (.iconst 0, 1) := by decide +kernel
theorem dX5_tensOfYears_1 : decode cX5_tensOfYears 1 = .ok (.istore_n 3, 1) := by decide +kernel
theorem dX5_tensOfYears_2 : decode cX5_tensOfYears 2 = .ok (.iconst 0, 1) := by decide +kernel
theorem dX5_tensOfYears_3 : decode cX5_tensOfYears 3 = .ok (.istore 4, 2) := by decide +kernel
theorem dX5_tensOfYears_5 : decode cX5_tensOfYears 5 = .ok (.iload 4, 2) := by decide +kernel
theorem dX5_tensOfYears_7 : decode cX5_tensOfYears 7 = .ok (.aload_n 1, 1) := by decide +kernel
theorem dX5_tensOfYears_8 : decode cX5_tensOfYears 8 = .ok (.getfield 18, 3) := by decide +kernel
theorem dX5_tensOfYears_11 : decode cX5_tensOfYears 11 = .ok (.getfield 83, 3) := by decide +kernel
theorem dX5_tensOfYears_14 : decode cX5_tensOfYears 14 = .ok (.if_icmp .ge 44, 3) := by decide +kernel
theorem dX5_tensOfYears_17 : decode cX5_tensOfYears 17 = .ok (.aload_n 1, 1) := by decide +kernel
theorem dX5_tensOfYears_18 : decode cX5_tensOfYears 18 = .ok (.getfield 113, 3) := by decide +kernel
theorem dX5_tensOfYears_21 : decode cX5_tensOfYears 21 = .ok (.iload 4, 2) := by decide +kernel
theorem dX5_tensOfYears_23 : decode cX5_tensOfYears 23 = .ok (.iaload, 1) := by decide +kernel
theorem dX5_tensOfYears_24 : decode cX5_tensOfYears 24 = .ok (.iload_n 2, 1) := by decide +kernel
theorem dX5_tensOfYears_25 : decode cX5_tensOfYears 25 = .ok (.if_icmp .ne 27, 3) := by decide +kernel
theorem dX5_tensOfYears_28 : decode cX5_tensOfYears 28 = .ok (.aload_n 1, 1) := by decide +kernel
theorem dX5_tensOfYears_29 : decode cX5_tensOfYears 29 = .ok (.iload 4, 2) := by decide +kernel
theorem dX5_tensOfYears_31 : decode cX5_tensOfYears 31 = .ok (.invokevirtual 39, 3) := by decide +kernel
theorem dX5_tensOfYears_34 : decode cX5_tensOfYears 34 = .ok (.ifCond .eq 18, 3) := by decide +kernel
theorem dX5_tensOfYears_37 : decode cX5_tensOfYears 37 = .ok (.iload_n 3, 1) := by decide +kernel
theorem dX5_tensOfYears_38 : decode cX5_tensOfYears 38 = .ok (.iconst 1, 1) := by decide +kernel
theorem dX5_tensOfYears_39 : decode cX5_tensOfYears 39 = .ok (.aload_n 1, 1) := by decide +kernel
theorem dX5_tensOfYears_40 : decode cX5_tensOfYears 40 = .ok (.getfield 92, 3) := by decide +kernel
theorem dX5_tensOfYears_43 : decode cX5_tensOfYears 43 = .ok (.iload 4, 2) := by decide +kernel
theorem dX5_tensOfYears_45 : decode cX5_tensOfYears 45 = .ok (.iaload, 1) := by decide +kernel
theorem dX5_tensOfYears_46 : decode cX5_tensOfYears 46 = .ok (.bipush 10, 2) := by decide +kernel
theorem dX5_tensOfYears_48 : decode cX5_tensOfYears 48 = .ok (.idiv, 1) := by decide +kernel
theorem dX5_tensOfYears_49 : decode cX5_tensOfYears 49 = .ok (.ishl, 1) := by decide +kernel
theorem dX5_tensOfYears_50 : decode cX5_tensOfYears 50 = .ok (.ior, 1) := by decide +kernel
theorem dX5_tensOfYears_51 : decode cX5_tensOfYears 51 = .ok (.istore_n 3, 1) := by decide +kernel
theorem dX5_tensOfYears_52 : decode cX5_tensOfYears 52 = .ok (.iinc 4 1, 3) := by decide +kernel
theorem dX5_tensOfYears_55 : decode cX5_tensOfYears 55 = .ok (.goto (-50), 3) := by decide +kernel
theorem dX5_tensOfYears_58 : decode cX5_tensOfYears 58 = .ok (.iload_n 3, 1) := by decide +kernel
theorem dX5_tensOfYears_59 : decode cX5_tensOfYears 59 = .ok (.ireturn, 1) := by decide +kernel
theorem dX6_init_0 : decode cX6_init 0 = .ok (.aload_n 0, 1) := by decide +kernel
theorem dX6_init_1 : decode cX6_init 1 = .ok (.invokespecial 3, 3) := by decide +kernel
theorem dX6_init_4 : decode cX6_init 4 = .ok (.aload_n 0, 1) := by decide +kernel
theorem dX6_init_5 : decode cX6_init 5 = .ok (.iconst 5, 1) := by decide +kernel
theorem dX6_init_6 : decode cX6_init 6 = .ok (.putfield 9, 3) := by decide +kernel
theorem dX6_init_9 : decode cX6_init 9 = .ok (.aload_n 0, 1) := by decide +kernel
theorem dX6_init_10 : decode cX6_init 10 = .ok (.iconst (-1), 1) := by decide +kernel
theorem dX6_init_11 : decode cX6_init 11 = .ok (.putfield 15, 3) := by decide +kernel
theorem dX6_init_14 : decode cX6_init 14 = .ok (.aload_n 0, 1) := by decide +kernel
theorem dX6_init_15 : decode cX6_init 15 = .ok (.new 18, 3) := by decide +kernel
theorem dX6_init_18 : decode cX6_init 18 = .ok (.dup, 1) := by decide +kernel
theorem dX6_init_19 : decode cX6_init 19 = .ok (.invokespecial 20, 3) := by decide +kernel
theorem dX6_init_22 : decode cX6_init 22 = .ok (.putfield 21, 3) := by decide +kernel
theorem dX6_init_25 : decode cX6_init 25 = .ok (.aload_n 0, 1) := by decide +kernel
theorem dX6_init_26 : decode cX6_init 26 = .ok (.new 25, 3) := by decide +kernel
theorem dX6_init_29 : decode cX6_init 29 = .ok (.dup, 1) := by decide +kernel
theorem dX6_init_30 : decode cX6_init 30 = .ok (.invokespecial 27, 3) := by decide +kernel
theorem dX6_init_33 : decode cX6_init 33 = .ok (.putfield 28, 3) := by decide +kernel
theorem dX6_init_36 : decode cX6_init 36 = .ok (.aload_n 0, 1) := by decide +kernel
theorem dX6_init_37 : decode cX6_init 37 = .ok (.iconst 5, 1) := by decide +kernel
theorem dX6_init_38 : decode cX6_init 38 = .ok (.newarray .int, 2) := by decide +kernel
theorem dX6_init_40 : decode cX6_init 40 = .ok (.putfield 32, 3) := by decide +kernel
theorem dX6_init_43 : decode cX6_init 43 = .ok (.aload_n 0, 1) := by decide +kernel
theorem dX6_init_44 : decode cX6_init 44 = .ok (.iconst 5, 1) := by decide +kernel
theorem dX6_init_45 : decode cX6_init 45 = .ok (.newarray .int, 2) := by decide +kernel
theorem dX6_init_47 : decode cX6_init 47 = .ok (.putfield 36, 3) := by decide +kernel
theorem dX6_init_50 : decode cX6_init 50 = .ok (.aload_n 0, 1) := by decide +kernel
theorem dX6_init_51 : decode cX6_init 51 = .ok (.bipush 12, 2) := by decide +kernel
theorem dX6_init_53 : decode cX6_init 53 = .ok (.newarray .int, 2) := by decide +kernel
theorem dX6_init_55 : decode cX6_init 55 = .ok (.putfield 39, 3) := by decide +kernel
theorem dX6_init_58 : decode cX6_init 58 = .ok (.aload_n 0, 1) := by decide +kernel
theorem dX6_init_59 : decode cX6_init 59 = .ok (.bipush 12, 2) := by decide +kernel
theorem dX6_init_61 : decode cX6_init 61 = .ok (.newarray .int, 2) := by decide +kernel
theorem dX6_init_63 : decode cX6_init 63 = .ok (.putfield 42, 3) := by decide +kernel
theorem dX6_init_66 : decode cX6_init 66 = .ok (.aload_n 0, 1) := by decide +kernel
theorem dX6_init_67 : decode cX6_init 67 = .ok (.bipush 12, 2) := by decide +kernel
theorem dX6_init_69 : decode cX6_init 69 = .ok (.newarray .int, 2) := by decide +kernel
theorem dX6_init_71 : decode cX6_init 71 = .ok (.putfield 45, 3) := by decide +kernel
theorem dX6_init_74 : decode cX6_init 74 = .ok (.aload_n 0, 1) := by decide +kernel
theorem dX6_init_75 : decode cX6_init 75 = .ok (.bipush 12, 2) := by decide +kernel
theorem dX6_init_77 : decode cX6_init 77 = .ok (.newarray .int, 2) := by decide +kernel
theorem dX6_init_79 : decode cX6_init 79 = .ok (.putfield 48, 3) := by decide +kernel
theorem dX6_init_82 : decode cX6_init 82 = .ok (.aload_n 0, 1) := by decide +kernel
theorem dX6_init_83 : decode cX6_init 83 = .ok (.bipush 12, 2) := by decide +kernel
theorem dX6_init_85 : decode cX6_init 85 = .ok (.newarray .int, 2) := by decide +kernel
theorem dX6_init_87 : decode cX6_init 87 = .ok (.putfield 51, 3) := by decide +kernel
theorem dX6_init_90 : decode cX6_init 90 = .ok (.aload_n 0, 1) := by decide +kernel
theorem dX6_init_91 : decode cX6_init 91 = .ok (.bipush 12, 2) := by decide +kernel
theorem dX6_init_93 : decode cX6_init 93 = .ok (.newarray .int, 2) := by decide +kernel
theorem dX6_init_95 : decode cX6_init 95 = .ok (.putfield 54, 3) := by decide +kernel
theorem dX6_init_98 : decode cX6_init 98 = .ok (.aload_n 0, 1) := by decide +kernel
theorem dX6_init_99 : decode cX6_init 99 = .ok (.new 57, 3) := by decide +kernel
theorem dX6_init_102 : decode cX6_init 102 = .ok (.dup, 1) := by decide +kernel
theorem dX6_init_103 : decode cX6_init 103 = .ok (.bipush 8, 2) := by decide +kernel
theorem dX6_init_105 : decode cX6_init 105 = .ok (.invokespecial 59, 3) := by decide +kernel
theorem dX6_init_108 : decode cX6_init 108 = .ok (.putfield 62, 3) := by decide +kernel
theorem dX6_init_111 : decode cX6_init 111 = .ok (.aload_n 0, 1) := by decide +kernel
theorem dX6_init_112 : decode cX6_init 112 = .ok (.new 57, 3) := by decide +kernel
theorem dX6_init_115 : decode cX6_init 115 = .ok (.dup, 1) := by decide +kernel
theorem dX6_init_116 : decode cX6_init 116 = .ok (.bipush 8, 2) := by decide +kernel
theorem dX6_init_118 : decode cX6_init 118 = .ok (.invokespecial 59, 3) := by decide +kernel
theorem dX6_init_121 : decode cX6_init 121 = .ok (.putfield 66, 3) := by decide +kernel
theorem dX6_init_124 : decode cX6_init 124 = .ok (.aload_n 0, 1) := by decide +kernel
theorem dX6_init_125 : decode cX6_init 125 = .ok (.new 57, 3) := by decide +kernel
theorem dX6_init_128 : decode cX6_init 128 = .ok (.dup, 1) := by decide +kernel
theorem dX6_init_129 : decode cX6_init 129 = .ok (.bipush 8, 2) := by decide +kernel
theorem dX6_init_131 : decode cX6_init 131 = .ok (.invokespecial 59, 3) := by decide +kernel
theorem dX6_init_134 : decode cX6_init 134 = .ok (.putfield 69, 3) := by decide +kernel
theorem dX6_init_137 : decode cX6_init 137 = .ok (.aload_n 0, 1) := by decide +kernel
theorem dX6_init_138 : decode cX6_init 138 = .ok (.new 57, 3) := by decide +kernel
theorem dX6_init_141 : decode cX6_init 141 = .ok (.dup, 1) := by decide +kernel
theorem dX6_init_142 : decode cX6_init 142 = .ok (.bipush 6, 2) := by decide +kernel
theorem dX6_init_144 : decode cX6_init 144 = .ok (.invokespecial 59, 3) := by decide +kernel
theorem dX6_init_147 : decode cX6_init 147 = .ok (.putfield 72, 3) := by decide +kernel
theorem dX6_init_150 : decode cX6_init 150 = .ok (.aload_n 0, 1) := by decide +kernel
theorem dX6_init_151 : decode cX6_init 151 = .ok (.new 57, 3) := by decide +kernel
theorem dX6_init_154 : decode cX6_init 154 = .ok (.dup, 1) := by decide +kernel
theorem dX6_init_155 : decode cX6_init 155 = .ok (.bipush 8, 2) := by decide +kernel
theorem dX6_init_157 : decode cX6_init 157 = .ok (.invokespecial 59, 3) := by decide +kernel
theorem dX6_init_160 : decode cX6_init 160 = .ok (.putfield 75, 3) := by decide +kernel
theorem dX6_init_163 : decode cX6_init 163 = .ok (.aload_n 0, 1) := by decide +kernel
theorem dX6_init_164 : decode cX6_init 164 = .ok (.new 57, 3) := by decide +kernel
theorem dX6_init_167 : decode cX6_init 167 = .ok (.dup, 1) := by decide +kernel
theorem dX6_init_168 : decode cX6_init 168 = .ok (.bipush 8, 2) := by decide +kernel
theorem dX6_init_170 : decode cX6_init 170 = .ok (.invokespecial 59, 3) := by decide +kernel
theorem dX6_init_173 : decode cX6_init 173 = .ok (.putfield 78, 3) := by decide +kernel
theorem dX6_init_176 : decode cX6_init 176 = .ok (.aload_n 0, 1) := by decide +kernel
theorem dX6_init_177 : decode cX6_init 177 = .ok (.aload_n 1, 1) := by decide +kernel
theorem dX6_init_178 : decode cX6_init 178 = .ok (.putfield 81, 3) := by decide +kernel
theorem dX6_init_181 : decode cX6_init 181 = .ok (.aload_n 0, 1) := by decide +kernel
theorem dX6_init_182 : decode cX6_init 182 = .ok (.aload_n 2, 1) := by decide +kernel
theorem dX6_init_183 : decode cX6_init 183 = .ok (.putfield 85, 3) := by decide +kernel
theorem dX6_init_186 : decode cX6_init 186 = .ok (.return_, 1) := by decide +kernel
theorem dX6_copy_0 : decode cX6_copy 0 = .ok (.aload_n 0, 1) := by decide +kernel
theorem dX6_copy_1 : decode cX6_copy 1 = .ok (.aload_n 1, 1) := by decide +kernel
theorem dX6_copy_2 : decode cX6_copy 2 = .ok (.getfield 9, 3) := by decide +kernel
theorem dX6_copy_5 : decode cX6_copy 5 = .ok (.putfield 9, 3) := by decide +kernel
theorem dX6_copy_8 : decode cX6_copy 8 = .ok (.aload_n 0, 1) := by decide +kernel
theorem dX6_copy_9 : decode cX6_copy 9 = .ok (.aload_n 1, 1) := by decide +kernel
theorem dX6_copy_10 : decode cX6_copy 10 = .ok (.getfield 89, 3) := by decide +kernel
theorem dX6_copy_13 : decode cX6_copy 13 = .ok (.putfield 89, 3) := by decide +kernel
theorem dX6_copy_16 : decode cX6_copy 16 = .ok (.aload_n 0, 1) := by decide +kernel
theorem dX6_copy_17 : decode cX6_copy 17 = .ok (.aload_n 1, 1) := by decide +kernel
theorem dX6_copy_18 : decode cX6_copy 18 = .ok (.getfield 15, 3) := by decide +kernel
theorem dX6_copy_21 : decode cX6_copy 21 = .ok (.putfield 15, 3) := by decide +kernel
theorem dX6_copy_24 : decode cX6_copy 24 = .ok (.aload_n 0, 1) := by decide +kernel
theorem dX6_copy_25 : decode cX6_copy 25 = .ok (.getfield 21, 3) := by decide +kernel
theorem dX6_copy_28 : decode cX6_copy 28 = .ok (.aload_n 1, 1) := by decide +kernel
theorem dX6_copy_29 : decode cX6_copy 29 = .ok (.getfield 21, 3) := by decide +kernel
theorem dX6_copy_32 : decode cX6_copy 32 = .ok (.invokevirtual 92, 3) := by decide +kernel
theorem dX6_copy_35 : decode cX6_copy 35 = .ok (.aload_n 0, 1) := by decide +kernel
theorem dX6_copy_36 : decode cX6_copy 36 = .ok (.getfield 28, 3) := by decide +kernel
theorem dX6_copy_39 : decode cX6_copy 39 = .ok (.aload_n 1, 1) := by decide +kernel
theorem dX6_copy_40 : decode cX6_copy 40 = .ok (.getfield 28, 3) := by decide +kernel
theorem dX6_copy_43 : decode cX6_copy 43 = .ok (.invokevirtual 96, 3) := by decide +kernel
theorem dX6_copy_46 : decode cX6_copy 46 = .ok (.aload_n 1, 1) := by decide +kernel
theorem dX6_copy_47 : decode cX6_copy 47 = .ok (.getfield 32, 3) := by decide +kernel
theorem dX6_copy_50 : decode cX6_copy 50 = .ok (.iconst 0, 1) := by decide +kernel
theorem dX6_copy_51 : decode cX6_copy 51 = .ok (.aload_n 0, 1) := by decide +kernel
theorem dX6_copy_52 : decode cX6_copy 52 = .ok (.getfield 32, 3) := by decide +kernel
theorem dX6_copy_55 : decode cX6_copy 55 = .ok (.iconst 0, 1) := by decide +kernel
theorem dX6_copy_56 : decode cX6_copy 56 = .ok (.iconst 5, 1) := by decide +kernel
theorem dX6_copy_57 : decode cX6_copy 57 = .ok (.invokestatic 99, 3) := by decide +kernel
theorem dX6_copy_60 : decode cX6_copy 60 = .ok (.aload_n 1, 1) := by decide +kernel
theorem dX6_copy_61 : decode cX6_copy 61 = .ok (.getfield 36, 3) := by decide +kernel
theorem dX6_copy_64 : decode cX6_copy 64 = .ok (.iconst 0, 1) := by decide +kernel
theorem dX6_copy_65 : decode cX6_copy 65 = .ok (.aload_n 0, 1) := by decide +kernel
theorem dX6_copy_66 : decode cX6_copy 66 = .ok (.getfield 36, 3) := by decide +kernel
theorem dX6_copy_69 : decode cX6_copy 69 = .ok (.iconst 0, 1) := by decide +kernel
theorem dX6_copy_70 : decode cX6_copy 70 = .ok (.iconst 5, 1) := by decide +kernel
theorem dX6_copy_71 : decode cX6_copy 71 = .ok (.invokestatic 99, 3) := by decide +kernel
theorem dX6_copy_74 : decode cX6_copy 74 = .ok (.aload_n 1, 1) := by decide +kernel
theorem dX6_copy_75 : decode cX6_copy 75 = .ok (.getfield 39, 3) := by decide +kernel
theorem dX6_copy_78 : decode cX6_copy 78 = .ok (.iconst 0, 1) := by decide +kernel
theorem dX6_copy_79 : decode cX6_copy 79 = .ok (.aload_n 0, 1) := by decide +kernel
theorem dX6_copy_80 : decode cX6_copy 80 = .ok (.getfield 39, 3) := by decide +kernel
theorem dX6_copy_83 : decode cX6_copy 83 = .ok (.iconst 0, 1) := by decide +kernel
theorem dX6_copy_84 : decode cX6_copy 84 = .ok (.bipush 12, 2) := by decide +kernel
theorem dX6_copy_86 : decode cX6_copy 86 = .ok (.invokestatic 99, 3) := by decide +kernel
theorem dX6_copy_89 : decode cX6_copy 89 = .ok (.aload_n 1, 1) := by decide +kernel
theorem dX6_copy_90 : decode cX6_copy 90 = .ok (.getfield 42, 3) := by decide +kernel
theorem dX6_copy_93 : decode cX6_copy 93 = .ok (.iconst 0, 1) := by decide +kernel
theorem dX6_copy_94 : decode cX6_copy 94 = .ok (.aload_n 0, 1) := by decide +kernel
theorem dX6_copy_95 : decode cX6_copy 95 = .ok (.getfield 42, 3) := by decide +kernel
theorem dX6_copy_98 : decode cX6_copy 98 = .ok (.iconst 0, 1) := by decide +kernel
theorem dX6_copy_99 : decode cX6_copy 99 = .ok (.bipush 12, 2) := by decide +kernel
theorem dX6_copy_101 : decode cX6_copy 101 = .ok (.invokestatic 99, 3) := by decide +kernel
theorem dX6_copy_104 : decode cX6_copy 104 = .ok (.aload_n 1, 1) := by decide +kernel
theorem dX6_copy_105 : decode cX6_copy 105 = .ok (.getfield 45, 3) := by decide +kernel
theorem dX6_copy_108 : decode cX6_copy 108 = .ok (.iconst 0, 1) := by decide +kernel
theorem dX6_copy_109 : decode cX6_copy 109 = .ok (.aload_n 0, 1) := by decide +kernel
theorem dX6_copy_110 : decode cX6_copy 110 = .ok (.getfield 45, 3) := by decide +kernel
theorem dX6_copy_113 : decode cX6_copy 113 = .ok (.iconst 0, 1) := by decide +kernel
theorem dX6_copy_114 : decode cX6_copy 114 = .ok (.bipush 12, 2) := by decide +kernel
theorem dX6_copy_116 : decode cX6_copy 116 = .ok (.invokestatic 99, 3) := by decide +kernel
theorem dX6_copy_119 : decode cX6_copy 119 = .ok (.aload_n 1, 1) := by decide +kernel
theorem dX6_copy_120 : decode cX6_copy 120 = .ok (.getfield 48, 3) := by decide +kernel
theorem dX6_copy_123 : decode cX6_copy 123 = .ok (.iconst 0, 1) := by decide +kernel
theorem dX6_copy_124 : decode cX6_copy 124 = .ok (.aload_n 0, 1) := by decide +kernel
theorem dX6_copy_125 : decode cX6_copy 125 = .ok (.getfield 48, 3) := by decide +kernel
theorem dX6_copy_128 : decode cX6_copy 128 = .ok (.iconst 0, 1) := by decide +kernel
theorem dX6_copy_129 : decode cX6_copy 129 = .ok (.bipush 12, 2) := by decide +kernel
theorem dX6_copy_131 : decode cX6_copy 131 = .ok (.invokestatic 99, 3) := by decide +kernel
theorem dX6_copy_134 : decode cX6_copy 134 = .ok (.aload_n 1, 1) := by decide +kernel
theorem dX6_copy_135 : decode cX6_copy 135 = .ok (.getfield 51, 3) := by decide +kernel
theorem dX6_copy_138 : decode cX6_copy 138 = .ok (.iconst 0, 1) := by decide +kernel
theorem dX6_copy_139 : decode cX6_copy 139 = .ok (.aload_n 0, 1) := by decide +kernel
theorem dX6_copy_140 : decode cX6_copy 140 = .ok (.getfield 51, 3) := by decide +kernel
theorem dX6_copy_143 : decode cX6_copy 143 = .ok (.iconst 0, 1) := by decide +kernel
theorem dX6_copy_144 : decode cX6_copy 144 = .ok (.bipush 12, 2) := by decide +kernel
theorem dX6_copy_146 : decode cX6_copy 146 = .ok (.invokestatic 99, 3) := by decide +kernel
theorem dX6_copy_149 : decode cX6_copy 149 = .ok (.aload_n 1, 1) := by decide +kernel
theorem dX6_copy_150 : decode cX6_copy 150 = .ok (.getfield 54, 3) := by decide +kernel
theorem dX6_copy_153 : decode cX6_copy 153 = .ok (.iconst 0, 1) := by decide +kernel
theorem dX6_copy_154 : decode cX6_copy 154 = .ok (.aload_n 0, 1) := by decide +kernel
theorem dX6_copy_155 : decode cX6_copy 155 = .ok (.getfield 54, 3) := by decide +kernel
theorem dX6_copy_158 : decode cX6_copy 158 = .ok (.iconst 0, 1) := by decide +kernel
theorem dX6_copy_159 : decode cX6_copy 159 = .ok (.bipush 12, 2) := by decide +kernel
theorem dX6_copy_161 : decode cX6_copy 161 = .ok (.invokestatic 99, 3) := by decide +kernel
theorem dX6_copy_164 : decode cX6_copy 164 = .ok (.aload_n 0, 1) := by decide +kernel
theorem dX6_copy_165 : decode cX6_copy 165 = .ok (.getfield 62, 3) := by decide +kernel
theorem dX6_copy_168 : decode cX6_copy 168 = .ok (.aload_n 1, 1) := by decide +kernel
theorem dX6_copy_169 : decode cX6_copy 169 = .ok (.getfield 62, 3) := by decide +kernel
theorem dX6_copy_172 : decode cX6_copy 172 = .ok (.invokevirtual 105, 3) := by decide +kernel
theorem dX6_copy_175 : decode cX6_copy 175 = .ok (.aload_n 0, 1) := by decide +kernel
theorem dX6_copy_176 : decode cX6_copy 176 = .ok (.getfield 66, 3) := by decide +kernel
theorem dX6_copy_179 : decode cX6_copy 179 = .ok (.aload_n 1, 1) := by decide +kernel
theorem dX6_copy_180 : decode cX6_copy 180 = .ok (.getfield 66, 3) := by decide +kernel
theorem dX6_copy_183 : decode cX6_copy 183 = .ok (.invokevirtual 105, 3) := by decide +kernel
theorem dX6_copy_186 : decode cX6_copy 186 = .ok (.aload_n 0, 1) := by decide +kernel
theorem dX6_copy_187 : decode cX6_copy 187 = .ok (.getfield 69, 3) := by decide +kernel
theorem dX6_copy_190 : decode cX6_copy 190 = .ok (.aload_n 1, 1) := by decide +kernel
theorem dX6_copy_191 : decode cX6_copy 191 = .ok (.getfield 69, 3) := by decide +kernel
theorem dX6_copy_194 : decode cX6_copy 194 = .ok (.invokevirtual 105, 3) := by decide +kernel
theorem dX6_copy_197 : decode cX6_copy 197 = .ok (.aload_n 0, 1) := by decide +kernel
theorem dX6_copy_198 : decode cX6_copy 198 = .ok (.getfield 72, 3) := by decide +kernel
theorem dX6_copy_201 : decode cX6_copy 201 = .ok (.aload_n 1, 1) := by decide +kernel
theorem dX6_copy_202 : decode cX6_copy 202 = .ok (.getfield 72, 3) := by decide +kernel
theorem dX6_copy_205 : decode cX6_copy 205 = .ok (.invokevirtual 105, 3) := by decide +kernel
theorem dX6_copy_208 : decode cX6_copy 208 = .ok (.aload_n 0, 1) := by decide +kernel
theorem dX6_copy_209 : decode cX6_copy 209 = .ok (.getfield 75, 3) := by decide +kernel
theorem dX6_copy_212 : decode cX6_copy 212 = .ok (.aload_n 1, 1) := by decide +kernel
theorem dX6_copy_213 : decode cX6_copy 213 = .ok (.getfield 75, 3) := by decide +kernel
theorem dX6_copy_216 : decode cX6_copy 216 = .ok (.invokevirtual 105, 3) := by decide +kernel
theorem dX6_copy_219 : decode cX6_copy 219 = .ok (.aload_n 0, 1) := by decide +kernel
theorem dX6_copy_220 : decode cX6_copy 220 = .ok (.getfield 78, 3) := by decide +kernel
theorem dX6_copy_223 : decode cX6_copy 223 = .ok (.aload_n 1, 1) := by decide +kernel
theorem dX6_copy_224 : decode cX6_copy 224 = .ok (.getfield 78, 3) := by decide +kernel
theorem dX6_copy_227 : decode cX6_copy 227 = .ok (.invokevirtual 105, 3) := by decide +kernel
theorem dX6_copy_230 : decode cX6_copy 230 = .ok (.return_, 1) := by decide +kernel
theorem dX6_isPerson_0 : decode cX6_isPerson 0 = .ok (.iload_n 1, 1) := by decide +kernel
theorem dX6_isPerson_1 : decode cX6_isPerson 1 = .ok (.ifCond .lt 18, 3) := by decide +kernel
theorem dX6_isPerson_4 : decode cX6_isPerson 4 = .ok (.iload_n 1, 1) := by decide +kernel
theorem dX6_isPerson_5 : decode cX6_isPerson 5 = .ok (.aload_n 0, 1) := by decide +kernel
theorem dX6_isPerson_6 : decode cX6_isPerson 6 = .ok (.getfield 21, 3) := by decide +kernel
theorem dX6_isPerson_9 : decode cX6_isPerson 9 = .ok (.getfield 108, 3) := by decide +kernel
theorem dX6_isPerson_12 : decode cX6_isPerson 12 = .ok (.if_icmp .ge 7, 3) := by decide +kernel
theorem dX6_isPerson_15 : decode cX6_isPerson 15 = .ok (.iconst 1, 1) := by decide +kernel
theorem dX6_isPerson_16 : decode cX6_isPerson 16 = .ok (.goto 4, 3) := by decide +kernel
theorem dX6_isPerson_19 : decode cX6_isPerson 19 = .ok (.iconst 0, 1) := by decide +kernel
theorem dX6_isPerson_20 : decode cX6_isPerson 20 = .ok (.ireturn, 1) := by decide +kernel
theorem dX6_isCrease_0 : decode cX6_isCrease 0 = .ok (.iload_n 1, 1) := by decide +kernel
theorem dX6_isCrease_1 : decode cX6_isCrease 1 = .ok (.ifCond .lt 18, 3) := by decide +kernel
theorem dX6_isCrease_4 : decode cX6_isCrease 4 = .ok (.iload_n 1, 1) := by decide +kernel
theorem dX6_isCrease_5 : decode cX6_isCrease 5 = .ok (.aload_n 0, 1) := by decide +kernel
theorem dX6_isCrease_6 : decode cX6_isCrease 6 = .ok (.getfield 21, 3) := by decide +kernel
theorem dX6_isCrease_9 : decode cX6_isCrease 9 = .ok (.getfield 111, 3) := by decide +kernel
theorem dX6_isCrease_12 : decode cX6_isCrease 12 = .ok (.if_icmp .ge 7, 3) := by decide +kernel
theorem dX6_isCrease_15 : decode cX6_isCrease 15 = .ok (.iconst 1, 1) := by decide +kernel
theorem dX6_isCrease_16 : decode cX6_isCrease 16 = .ok (.goto 4, 3) := by decide +kernel
theorem dX6_isCrease_19 : decode cX6_isCrease 19 = .ok (.iconst 0, 1) := by decide +kernel
theorem dX6_isCrease_20 : decode cX6_isCrease 20 = .ok (.ireturn, 1) := by decide +kernel
theorem dX6_isThere_0 : decode cX6_isThere 0 = .ok (.aload_n 0, 1) := by decide +kernel
theorem dX6_isThere_1 : decode cX6_isThere 1 = .ok (.iload_n 1, 1) := by decide +kernel
theorem dX6_isThere_2 : decode cX6_isThere 2 = .ok (.invokevirtual 114, 3) := by decide +kernel
theorem dX6_isThere_5 : decode cX6_isThere 5 = .ok (.ifCond .eq 19, 3) := by decide +kernel
theorem dX6_isThere_8 : decode cX6_isThere 8 = .ok (.aload_n 0, 1) := by decide +kernel
theorem dX6_isThere_9 : decode cX6_isThere 9 = .ok (.getfield 21, 3) := by decide +kernel
theorem dX6_isThere_12 : decode cX6_isThere 12 = .ok (.getfield 118, 3) := by decide +kernel
theorem dX6_isThere_15 : decode cX6_isThere 15 = .ok (.iload_n 1, 1) := by decide +kernel
theorem dX6_isThere_16 : decode cX6_isThere 16 = .ok (.iaload, 1) := by decide +kernel
theorem dX6_isThere_17 : decode cX6_isThere 17 = .ok (.ifCond .ne 7, 3) := by decide +kernel
theorem dX6_isThere_20 : decode cX6_isThere 20 = .ok (.iconst 1, 1) := by decide +kernel
theorem dX6_isThere_21 : decode cX6_isThere 21 = .ok (.goto 4, 3) := by decide +kernel
theorem dX6_isThere_24 : decode cX6_isThere 24 = .ok (.iconst 0, 1) := by decide +kernel
theorem dX6_isThere_25 : decode cX6_isThere 25 = .ok (.ireturn, 1) := by decide +kernel
theorem dX6_tellPerson_0 : decode cX6_tellPerson 0 = .ok (.iload_n 1, 1) := by decide +kernel
theorem dX6_tellPerson_1 : decode cX6_tellPerson 1 = .ok (.ifCond .lt 30, 3) := by decide +kernel
theorem dX6_tellPerson_4 : decode cX6_tellPerson 4 = .ok (.iload_n 1, 1) := by decide +kernel
theorem dX6_tellPerson_5 : decode cX6_tellPerson 5 = .ok (.iconst 2, 1) := by decide +kernel
theorem dX6_tellPerson_6 : decode cX6_tellPerson 6 = .ok (.if_icmp .gt 25, 3) := by decide +kernel
theorem dX6_tellPerson_9 : decode cX6_tellPerson 9 = .ok (.iload_n 2, 1) := by decide +kernel
theorem dX6_tellPerson_10 : decode cX6_tellPerson 10 = .ok (.ifCond .lt 21, 3) := by decide +kernel
theorem dX6_tellPerson_13 : decode cX6_tellPerson 13 = .ok (.iload_n 2, 1) := by decide +kernel
theorem dX6_tellPerson_14 : decode cX6_tellPerson 14 = .ok (.sipush 9999, 3) := by decide +kernel
theorem dX6_tellPerson_17 : decode cX6_tellPerson 17 = .ok (.if_icmp .gt 14, 3) := by decide +kernel
theorem dX6_tellPerson_20 : decode cX6_tellPerson 20 = .ok (.aload_n 0, 1) := by decide +kernel
theorem dX6_tellPerson_21 : decode cX6_tellPerson 21 = .ok (.getfield 21, 3) := by decide +kernel
theorem dX6_tellPerson_24 : decode cX6_tellPerson 24 = .ok (.getfield 108, 3) := by decide +kernel
theorem dX6_tellPerson_27 : decode cX6_tellPerson 27 = .ok (.iconst 5, 1) := by decide +kernel
theorem dX6_tellPerson_28 : decode cX6_tellPerson 28 = .ok (.if_icmp .lt 5, 3) := by decide +kernel
theorem dX6_tellPerson_31 : decode cX6_tellPerson 31 = .ok (.iconst (-1), 1) := by decide +kernel
theorem dX6_tellPerson_32 : decode cX6_tellPerson 32 = .ok (.ireturn, 1) := by decide +kernel
theorem dX6_tellPerson_33 : decode cX6_tellPerson 33 = .ok (.aload_n 0, 1) := by decide +kernel
theorem dX6_tellPerson_34 : decode cX6_tellPerson 34 = .ok (.getfield 21, 3) := by decide +kernel
theorem dX6_tellPerson_37 : decode cX6_tellPerson 37 = .ok (.getfield 108, 3) := by decide +kernel
theorem dX6_tellPerson_40 : decode cX6_tellPerson 40 = .ok (.istore_n 3, 1) := by decide +kernel
theorem dX6_tellPerson_41 : decode cX6_tellPerson 41 = .ok (.aload_n 0, 1) := by decide +kernel
theorem dX6_tellPerson_42 : decode cX6_tellPerson 42 = .ok (.getfield 32, 3) := by decide +kernel
theorem dX6_tellPerson_45 : decode cX6_tellPerson 45 = .ok (.iload_n 3, 1) := by decide +kernel
theorem dX6_tellPerson_46 : decode cX6_tellPerson 46 = .ok (.iload_n 1, 1) := by decide +kernel
theorem dX6_tellPerson_47 : decode cX6_tellPerson 47 = .ok (.iastore, 1) := by decide +kernel
theorem dX6_tellPerson_48 : decode cX6_tellPerson 48 = .ok (.aload_n 0, 1) := by decide +kernel
theorem dX6_tellPerson_49 : decode cX6_tellPerson 49 = .ok (.getfield 36, 3) := by decide +kernel
theorem dX6_tellPerson_52 : decode cX6_tellPerson 52 = .ok (.iload_n 3, 1) := by decide +kernel
theorem dX6_tellPerson_53 : decode cX6_tellPerson 53 = .ok (.iload_n 2, 1) := by decide +kernel
theorem dX6_tellPerson_54 : decode cX6_tellPerson 54 = .ok (.iastore, 1) := by decide +kernel
theorem dX6_tellPerson_55 : decode cX6_tellPerson 55 = .ok (.aload_n 0, 1) := by decide +kernel
theorem dX6_tellPerson_56 : decode cX6_tellPerson 56 = .ok (.getfield 21, 3) := by decide +kernel
theorem dX6_tellPerson_59 : decode cX6_tellPerson 59 = .ok (.getfield 121, 3) := by decide +kernel
theorem dX6_tellPerson_62 : decode cX6_tellPerson 62 = .ok (.iload_n 3, 1) := by decide +kernel
theorem dX6_tellPerson_63 : decode cX6_tellPerson 63 = .ok (.iload_n 2, 1) := by decide +kernel
theorem dX6_tellPerson_64 : decode cX6_tellPerson 64 = .ok (.iastore, 1) := by decide +kernel
theorem dX6_tellPerson_65 : decode cX6_tellPerson 65 = .ok (.aload_n 0, 1) := by decide +kernel
theorem dX6_tellPerson_66 : decode cX6_tellPerson 66 = .ok (.getfield 21, 3) := by decide +kernel
theorem dX6_tellPerson_69 : decode cX6_tellPerson 69 = .ok (.dup, 1) := by decide +kernel
theorem dX6_tellPerson_70 : decode cX6_tellPerson 70 = .ok (.getfield 108, 3) := by decide +kernel
theorem dX6_tellPerson_73 : decode cX6_tellPerson 73 = .ok (.iconst 1, 1) := by decide +kernel
theorem dX6_tellPerson_74 : decode cX6_tellPerson 74 = .ok (.iadd, 1) := by decide +kernel
theorem dX6_tellPerson_75 : decode cX6_tellPerson 75 = .ok (.putfield 108, 3) := by decide +kernel
theorem dX6_tellPerson_78 : decode cX6_tellPerson 78 = .ok (.iload_n 3, 1) := by decide +kernel
theorem dX6_tellPerson_79 : decode cX6_tellPerson 79 = .ok (.ireturn, 1) := by decide +kernel
theorem dX6_tellCrease_0 : decode cX6_tellCrease 0 = .ok (.aload_n 0, 1) := by decide +kernel
theorem dX6_tellCrease_1 : decode cX6_tellCrease 1 = .ok (.iload_n 1, 1) := by decide +kernel
theorem dX6_tellCrease_2 : decode cX6_tellCrease 2 = .ok (.invokevirtual 124, 3) := by decide +kernel
theorem dX6_tellCrease_5 : decode cX6_tellCrease 5 = .ok (.ifCond .eq 50, 3) := by decide +kernel
theorem dX6_tellCrease_8 : decode cX6_tellCrease 8 = .ok (.iload_n 2, 1) := by decide +kernel
theorem dX6_tellCrease_9 : decode cX6_tellCrease 9 = .ok (.ifCond .lt 46, 3) := by decide +kernel
theorem dX6_tellCrease_12 : decode cX6_tellCrease 12 = .ok (.iload_n 2, 1) := by decide +kernel
theorem dX6_tellCrease_13 : decode cX6_tellCrease 13 = .ok (.bipush 99, 2) := by decide +kernel
theorem dX6_tellCrease_15 : decode cX6_tellCrease 15 = .ok (.if_icmp .gt 40, 3) := by decide +kernel
theorem dX6_tellCrease_18 : decode cX6_tellCrease 18 = .ok (.iload_n 3, 1) := by decide +kernel
theorem dX6_tellCrease_19 : decode cX6_tellCrease 19 = .ok (.iconst 1, 1) := by decide +kernel
theorem dX6_tellCrease_20 : decode cX6_tellCrease 20 = .ok (.if_icmp .lt 35, 3) := by decide +kernel
theorem dX6_tellCrease_23 : decode cX6_tellCrease 23 = .ok (.iload_n 3, 1) := by decide +kernel
theorem dX6_tellCrease_24 : decode cX6_tellCrease 24 = .ok (.bipush 9, 2) := by decide +kernel
theorem dX6_tellCrease_26 : decode cX6_tellCrease 26 = .ok (.if_icmp .gt 29, 3) := by decide +kernel
theorem dX6_tellCrease_29 : decode cX6_tellCrease 29 = .ok (.iload 4, 2) := by decide +kernel
theorem dX6_tellCrease_31 : decode cX6_tellCrease 31 = .ok (.bipush (-9), 2) := by decide +kernel
theorem dX6_tellCrease_33 : decode cX6_tellCrease 33 = .ok (.if_icmp .lt 22, 3) := by decide +kernel
theorem dX6_tellCrease_36 : decode cX6_tellCrease 36 = .ok (.iload 4, 2) := by decide +kernel
theorem dX6_tellCrease_38 : decode cX6_tellCrease 38 = .ok (.bipush 9, 2) := by decide +kernel
theorem dX6_tellCrease_40 : decode cX6_tellCrease 40 = .ok (.if_icmp .gt 15, 3) := by decide +kernel
theorem dX6_tellCrease_43 : decode cX6_tellCrease 43 = .ok (.aload_n 0, 1) := by decide +kernel
theorem dX6_tellCrease_44 : decode cX6_tellCrease 44 = .ok (.getfield 21, 3) := by decide +kernel
theorem dX6_tellCrease_47 : decode cX6_tellCrease 47 = .ok (.getfield 111, 3) := by decide +kernel
theorem dX6_tellCrease_50 : decode cX6_tellCrease 50 = .ok (.bipush 12, 2) := by decide +kernel
theorem dX6_tellCrease_52 : decode cX6_tellCrease 52 = .ok (.if_icmp .lt 5, 3) := by decide +kernel
theorem dX6_tellCrease_55 : decode cX6_tellCrease 55 = .ok (.iconst (-1), 1) := by decide +kernel
theorem dX6_tellCrease_56 : decode cX6_tellCrease 56 = .ok (.ireturn, 1) := by decide +kernel
theorem dX6_tellCrease_57 : decode cX6_tellCrease 57 = .ok (.aload_n 0, 1) := by decide +kernel
theorem dX6_tellCrease_58 : decode cX6_tellCrease 58 = .ok (.getfield 21, 3) := by decide +kernel
theorem dX6_tellCrease_61 : decode cX6_tellCrease 61 = .ok (.getfield 111, 3) := by decide +kernel
theorem dX6_tellCrease_64 : decode cX6_tellCrease 64 = .ok (.istore 5, 2) := by decide +kernel
theorem dX6_tellCrease_66 : decode cX6_tellCrease 66 = .ok (.aload_n 0, 1) := by decide +kernel
theorem dX6_tellCrease_67 : decode cX6_tellCrease 67 = .ok (.getfield 39, 3) := by decide +kernel
theorem dX6_tellCrease_70 : decode cX6_tellCrease 70 = .ok (.iload 5, 2) := by decide +kernel
theorem dX6_tellCrease_72 : decode cX6_tellCrease 72 = .ok (.iload_n 1, 1) := by decide +kernel
theorem dX6_tellCrease_73 : decode cX6_tellCrease 73 = .ok (.iastore, 1) := by decide +kernel
theorem dX6_tellCrease_74 : decode cX6_tellCrease 74 = .ok (.aload_n 0, 1) := by decide +kernel
theorem dX6_tellCrease_75 : decode cX6_tellCrease 75 = .ok (.getfield 42, 3) := by decide +kernel
theorem dX6_tellCrease_78 : decode cX6_tellCrease 78 = .ok (.iload 5, 2) := by decide +kernel
theorem dX6_tellCrease_80 : decode cX6_tellCrease 80 = .ok (.iload_n 2, 1) := by decide +kernel
theorem dX6_tellCrease_81 : decode cX6_tellCrease 81 = .ok (.iastore, 1) := by decide +kernel
theorem dX6_tellCrease_82 : decode cX6_tellCrease 82 = .ok (.aload_n 0, 1) := by decide +kernel
theorem dX6_tellCrease_83 : decode cX6_tellCrease 83 = .ok (.getfield 45, 3) := by decide +kernel
theorem dX6_tellCrease_86 : decode cX6_tellCrease 86 = .ok (.iload 5, 2) := by decide +kernel
theorem dX6_tellCrease_88 : decode cX6_tellCrease 88 = .ok (.iload_n 3, 1) := by decide +kernel
theorem dX6_tellCrease_89 : decode cX6_tellCrease 89 = .ok (.iastore, 1) := by decide +kernel
theorem dX6_tellCrease_90 : decode cX6_tellCrease 90 = .ok (.aload_n 0, 1) := by decide +kernel
theorem dX6_tellCrease_91 : decode cX6_tellCrease 91 = .ok (.getfield 48, 3) := by decide +kernel
theorem dX6_tellCrease_94 : decode cX6_tellCrease 94 = .ok (.iload 5, 2) := by decide +kernel
theorem dX6_tellCrease_96 : decode cX6_tellCrease 96 = .ok (.iload 4, 2) := by decide +kernel
theorem dX6_tellCrease_98 : decode cX6_tellCrease 98 = .ok (.iastore, 1) := by decide +kernel
theorem dX6_tellCrease_99 : decode cX6_tellCrease 99 = .ok (.aload_n 0, 1) := by decide +kernel
theorem dX6_tellCrease_100 : decode cX6_tellCrease 100 = .ok (.getfield 51, 3) := by decide +kernel
theorem dX6_tellCrease_103 : decode cX6_tellCrease 103 = .ok (.iload 5, 2) := by decide +kernel
theorem dX6_tellCrease_105 : decode cX6_tellCrease 105 = .ok (.iconst 0, 1) := by decide +kernel
theorem dX6_tellCrease_106 : decode cX6_tellCrease 106 = .ok (.iastore, 1) := by decide +kernel
theorem dX6_tellCrease_107 : decode cX6_tellCrease 107 = .ok (.aload_n 0, 1) := by decide +kernel
theorem dX6_tellCrease_108 : decode cX6_tellCrease 108 = .ok (.getfield 54, 3) := by decide +kernel
theorem dX6_tellCrease_111 : decode cX6_tellCrease 111 = .ok (.iload 5, 2) := by decide +kernel
theorem dX6_tellCrease_113 : decode cX6_tellCrease 113 = .ok (.iconst 1, 1) := by decide +kernel
theorem dX6_tellCrease_114 : decode cX6_tellCrease 114 = .ok (.iload 5, 2) := by decide +kernel
theorem dX6_tellCrease_116 : decode cX6_tellCrease 116 = .ok (.ishl, 1) := by decide +kernel
theorem dX6_tellCrease_117 : decode cX6_tellCrease 117 = .ok (.iastore, 1) := by decide +kernel
theorem dX6_tellCrease_118 : decode cX6_tellCrease 118 = .ok (.aload_n 0, 1) := by decide +kernel
theorem dX6_tellCrease_119 : decode cX6_tellCrease 119 = .ok (.iload 5, 2) := by decide +kernel
theorem dX6_tellCrease_121 : decode cX6_tellCrease 121 = .ok (.invokevirtual 127, 3) := by decide +kernel
theorem dX6_tellCrease_124 : decode cX6_tellCrease 124 = .ok (.aload_n 0, 1) := by decide +kernel
theorem dX6_tellCrease_125 : decode cX6_tellCrease 125 = .ok (.getfield 21, 3) := by decide +kernel
theorem dX6_tellCrease_128 : decode cX6_tellCrease 128 = .ok (.dup, 1) := by decide +kernel
theorem dX6_tellCrease_129 : decode cX6_tellCrease 129 = .ok (.getfield 111, 3) := by decide +kernel
theorem dX6_tellCrease_132 : decode cX6_tellCrease 132 = .ok (.iconst 1, 1) := by decide +kernel
theorem dX6_tellCrease_133 : decode cX6_tellCrease 133 = .ok (.iadd, 1) := by decide +kernel
theorem dX6_tellCrease_134 : decode cX6_tellCrease 134 = .ok (.putfield 111, 3) := by decide +kernel
theorem dX6_tellCrease_137 : decode cX6_tellCrease 137 = .ok (.iload 5, 2) := by decide +kernel
theorem dX6_tellCrease_139 : decode cX6_tellCrease 139 = .ok (.ireturn, 1) := by decide +kernel
theorem dX6_setAsTold_0 : decode cX6_setAsTold 0 = .ok (.aload_n 0, 1) := by decide +kernel
theorem dX6_setAsTold_1 : decode cX6_setAsTold 1 = .ok (.getfield 21, 3) := by decide +kernel
theorem dX6_setAsTold_4 : decode cX6_setAsTold 4 = .ok (.getfield 118, 3) := by decide +kernel
theorem dX6_setAsTold_7 : decode cX6_setAsTold 7 = .ok (.iload_n 1, 1) := by decide +kernel
theorem dX6_setAsTold_8 : decode cX6_setAsTold 8 = .ok (.iconst 0, 1) := by decide +kernel
theorem dX6_setAsTold_9 : decode cX6_setAsTold 9 = .ok (.iastore, 1) := by decide +kernel
theorem dX6_setAsTold_10 : decode cX6_setAsTold 10 = .ok (.aload_n 0, 1) := by decide +kernel
theorem dX6_setAsTold_11 : decode cX6_setAsTold 11 = .ok (.getfield 21, 3) := by decide +kernel
theorem dX6_setAsTold_14 : decode cX6_setAsTold 14 = .ok (.getfield 130, 3) := by decide +kernel
theorem dX6_setAsTold_17 : decode cX6_setAsTold 17 = .ok (.iload_n 1, 1) := by decide +kernel
theorem dX6_setAsTold_18 : decode cX6_setAsTold 18 = .ok (.aload_n 0, 1) := by decide +kernel
theorem dX6_setAsTold_19 : decode cX6_setAsTold 19 = .ok (.getfield 45, 3) := by decide +kernel
theorem dX6_setAsTold_22 : decode cX6_setAsTold 22 = .ok (.iload_n 1, 1) := by decide +kernel
theorem dX6_setAsTold_23 : decode cX6_setAsTold 23 = .ok (.iaload, 1) := by decide +kernel
theorem dX6_setAsTold_24 : decode cX6_setAsTold 24 = .ok (.iastore, 1) := by decide +kernel
theorem dX6_setAsTold_25 : decode cX6_setAsTold 25 = .ok (.return_, 1) := by decide +kernel
theorem dX6_tellTie_0 : decode cX6_tellTie 0 = .ok (.aload_n 0, 1) := by decide +kernel
theorem dX6_tellTie_1 : decode cX6_tellTie 1 = .ok (.iload_n 1, 1) := by decide +kernel
theorem dX6_tellTie_2 : decode cX6_tellTie 2 = .ok (.invokevirtual 114, 3) := by decide +kernel
theorem dX6_tellTie_5 : decode cX6_tellTie 5 = .ok (.ifCond .eq 30, 3) := by decide +kernel
theorem dX6_tellTie_8 : decode cX6_tellTie 8 = .ok (.aload_n 0, 1) := by decide +kernel
theorem dX6_tellTie_9 : decode cX6_tellTie 9 = .ok (.iload_n 2, 1) := by decide +kernel
theorem dX6_tellTie_10 : decode cX6_tellTie 10 = .ok (.invokevirtual 114, 3) := by decide +kernel
theorem dX6_tellTie_13 : decode cX6_tellTie 13 = .ok (.ifCond .eq 22, 3) := by decide +kernel
theorem dX6_tellTie_16 : decode cX6_tellTie 16 = .ok (.iload_n 1, 1) := by decide +kernel
theorem dX6_tellTie_17 : decode cX6_tellTie 17 = .ok (.iload_n 2, 1) := by decide +kernel
theorem dX6_tellTie_18 : decode cX6_tellTie 18 = .ok (.if_icmp .eq 17, 3) := by decide +kernel
theorem dX6_tellTie_21 : decode cX6_tellTie 21 = .ok (.aload_n 0, 1) := by decide +kernel
theorem dX6_tellTie_22 : decode cX6_tellTie 22 = .ok (.getfield 51, 3) := by decide +kernel
theorem dX6_tellTie_25 : decode cX6_tellTie 25 = .ok (.iload_n 1, 1) := by decide +kernel
theorem dX6_tellTie_26 : decode cX6_tellTie 26 = .ok (.iaload, 1) := by decide +kernel
theorem dX6_tellTie_27 : decode cX6_tellTie 27 = .ok (.iload_n 2, 1) := by decide +kernel
theorem dX6_tellTie_28 : decode cX6_tellTie 28 = .ok (.ishr, 1) := by decide +kernel
theorem dX6_tellTie_29 : decode cX6_tellTie 29 = .ok (.iconst 1, 1) := by decide +kernel
theorem dX6_tellTie_30 : decode cX6_tellTie 30 = .ok (.iand, 1) := by decide +kernel
theorem dX6_tellTie_31 : decode cX6_tellTie 31 = .ok (.iconst 1, 1) := by decide +kernel
theorem dX6_tellTie_32 : decode cX6_tellTie 32 = .ok (.if_icmp .ne 5, 3) := by decide +kernel
theorem dX6_tellTie_35 : decode cX6_tellTie 35 = .ok (.iconst 0, 1) := by decide +kernel
theorem dX6_tellTie_36 : decode cX6_tellTie 36 = .ok (.ireturn, 1) := by decide +kernel
theorem dX6_tellTie_37 : decode cX6_tellTie 37 = .ok (.aload_n 0, 1) := by decide +kernel
theorem dX6_tellTie_38 : decode cX6_tellTie 38 = .ok (.getfield 51, 3) := by decide +kernel
theorem dX6_tellTie_41 : decode cX6_tellTie 41 = .ok (.iload_n 1, 1) := by decide +kernel
theorem dX6_tellTie_42 : decode cX6_tellTie 42 = .ok (.dup2, 1) := by decide +kernel
theorem dX6_tellTie_43 : decode cX6_tellTie 43 = .ok (.iaload, 1) := by decide +kernel
theorem dX6_tellTie_44 : decode cX6_tellTie 44 = .ok (.iconst 1, 1) := by decide +kernel
theorem dX6_tellTie_45 : decode cX6_tellTie 45 = .ok (.iload_n 2, 1) := by decide +kernel
theorem dX6_tellTie_46 : decode cX6_tellTie 46 = .ok (.ishl, 1) := by decide +kernel
theorem dX6_tellTie_47 : decode cX6_tellTie 47 = .ok (.ior, 1) := by decide +kernel
theorem dX6_tellTie_48 : decode cX6_tellTie 48 = .ok (.iastore, 1) := by decide +kernel
theorem dX6_tellTie_49 : decode cX6_tellTie 49 = .ok (.iconst 0, 1) := by decide +kernel
theorem dX6_tellTie_50 : decode cX6_tellTie 50 = .ok (.istore_n 3, 1) := by decide +kernel
theorem dX6_tellTie_51 : decode cX6_tellTie 51 = .ok (.iload_n 3, 1) := by decide +kernel
theorem dX6_tellTie_52 : decode cX6_tellTie 52 = .ok (.aload_n 0, 1) := by decide +kernel
theorem dX6_tellTie_53 : decode cX6_tellTie 53 = .ok (.getfield 21, 3) := by decide +kernel
theorem dX6_tellTie_56 : decode cX6_tellTie 56 = .ok (.getfield 111, 3) := by decide +kernel
theorem dX6_tellTie_59 : decode cX6_tellTie 59 = .ok (.if_icmp .ge 38, 3) := by decide +kernel
theorem dX6_tellTie_62 : decode cX6_tellTie 62 = .ok (.aload_n 0, 1) := by decide +kernel
theorem dX6_tellTie_63 : decode cX6_tellTie 63 = .ok (.getfield 54, 3) := by decide +kernel
theorem dX6_tellTie_66 : decode cX6_tellTie 66 = .ok (.iload_n 3, 1) := by decide +kernel
theorem dX6_tellTie_67 : decode cX6_tellTie 67 = .ok (.iaload, 1) := by decide +kernel
theorem dX6_tellTie_68 : decode cX6_tellTie 68 = .ok (.iload_n 2, 1) := by decide +kernel
theorem dX6_tellTie_69 : decode cX6_tellTie 69 = .ok (.ishr, 1) := by decide +kernel
theorem dX6_tellTie_70 : decode cX6_tellTie 70 = .ok (.iconst 1, 1) := by decide +kernel
theorem dX6_tellTie_71 : decode cX6_tellTie 71 = .ok (.iand, 1) := by decide +kernel
theorem dX6_tellTie_72 : decode cX6_tellTie 72 = .ok (.iconst 1, 1) := by decide +kernel
theorem dX6_tellTie_73 : decode cX6_tellTie 73 = .ok (.if_icmp .ne 18, 3) := by decide +kernel
theorem dX6_tellTie_76 : decode cX6_tellTie 76 = .ok (.aload_n 0, 1) := by decide +kernel
theorem dX6_tellTie_77 : decode cX6_tellTie 77 = .ok (.getfield 54, 3) := by decide +kernel
theorem dX6_tellTie_80 : decode cX6_tellTie 80 = .ok (.iload_n 3, 1) := by decide +kernel
theorem dX6_tellTie_81 : decode cX6_tellTie 81 = .ok (.dup2, 1) := by decide +kernel
theorem dX6_tellTie_82 : decode cX6_tellTie 82 = .ok (.iaload, 1) := by decide +kernel
theorem dX6_tellTie_83 : decode cX6_tellTie 83 = .ok (.aload_n 0, 1) := by decide +kernel
theorem dX6_tellTie_84 : decode cX6_tellTie 84 = .ok (.getfield 54, 3) := by decide +kernel
theorem dX6_tellTie_87 : decode cX6_tellTie 87 = .ok (.iload_n 1, 1) := by decide +kernel
theorem dX6_tellTie_88 : decode cX6_tellTie 88 = .ok (.iaload, 1) := by decide +kernel
theorem dX6_tellTie_89 : decode cX6_tellTie 89 = .ok (.ior, 1) := by decide +kernel
theorem dX6_tellTie_90 : decode cX6_tellTie 90 = .ok (.iastore, 1) := by decide +kernel
theorem dX6_tellTie_91 : decode cX6_tellTie 91 = .ok (.iinc 3 1, 3) := by decide +kernel
theorem dX6_tellTie_94 : decode cX6_tellTie 94 = .ok (.goto (-43), 3) := by decide +kernel
theorem dX6_tellTie_97 : decode cX6_tellTie 97 = .ok (.iconst 1, 1) := by decide +kernel
theorem dX6_tellTie_98 : decode cX6_tellTie 98 = .ok (.ireturn, 1) := by decide +kernel
theorem dX6_tellHeat_0 : decode cX6_tellHeat 0 = .ok (.iload_n 1, 1) := by decide +kernel
theorem dX6_tellHeat_1 : decode cX6_tellHeat 1 = .ok (.ifCond .lt 9, 3) := by decide +kernel
theorem dX6_tellHeat_4 : decode cX6_tellHeat 4 = .ok (.iload_n 1, 1) := by decide +kernel
theorem dX6_tellHeat_5 : decode cX6_tellHeat 5 = .ok (.bipush 9, 2) := by decide +kernel
theorem dX6_tellHeat_7 : decode cX6_tellHeat 7 = .ok (.if_icmp .le 5, 3) := by decide +kernel
theorem dX6_tellHeat_10 : decode cX6_tellHeat 10 = .ok (.iconst 0, 1) := by decide +kernel
theorem dX6_tellHeat_11 : decode cX6_tellHeat 11 = .ok (.ireturn, 1) := by decide +kernel
theorem dX6_tellHeat_12 : decode cX6_tellHeat 12 = .ok (.aload_n 0, 1) := by decide +kernel
theorem dX6_tellHeat_13 : decode cX6_tellHeat 13 = .ok (.iload_n 1, 1) := by decide +kernel
theorem dX6_tellHeat_14 : decode cX6_tellHeat 14 = .ok (.putfield 9, 3) := by decide +kernel
theorem dX6_tellHeat_17 : decode cX6_tellHeat 17 = .ok (.iconst 1, 1) := by decide +kernel
theorem dX6_tellHeat_18 : decode cX6_tellHeat 18 = .ok (.ireturn, 1) := by decide +kernel
theorem dX6_pressStep_0 : decode cX6_pressStep 0 = .ok (.aload_n 0, 1) := by decide +kernel
theorem dX6_pressStep_1 : decode cX6_pressStep 1 = .ok (.iload_n 1, 1) := by decide +kernel
theorem dX6_pressStep_2 : decode cX6_pressStep 2 = .ok (.invokevirtual 133, 3) := by decide +kernel
theorem dX6_pressStep_5 : decode cX6_pressStep 5 = .ok (.ifCond .ne 5, 3) := by decide +kernel
theorem dX6_pressStep_8 : decode cX6_pressStep 8 = .ok (.iconst 0, 1) := by decide +kernel
theorem dX6_pressStep_9 : decode cX6_pressStep 9 = .ok (.ireturn, 1) := by decide +kernel
theorem dX6_pressStep_10 : decode cX6_pressStep 10 = .ok (.aload_n 0, 1) := by decide +kernel
theorem dX6_pressStep_11 : decode cX6_pressStep 11 = .ok (.getfield 28, 3) := by decide +kernel
theorem dX6_pressStep_14 : decode cX6_pressStep 14 = .ok (.aload_n 0, 1) := by decide +kernel
theorem dX6_pressStep_15 : decode cX6_pressStep 15 = .ok (.getfield 21, 3) := by decide +kernel
theorem dX6_pressStep_18 : decode cX6_pressStep 18 = .ok (.invokevirtual 136, 3) := by decide +kernel
theorem dX6_pressStep_21 : decode cX6_pressStep 21 = .ok (.aload_n 0, 1) := by decide +kernel
theorem dX6_pressStep_22 : decode cX6_pressStep 22 = .ok (.iload_n 1, 1) := by decide +kernel
theorem dX6_pressStep_23 : decode cX6_pressStep 23 = .ok (.invokevirtual 139, 3) := by decide +kernel
theorem dX6_pressStep_26 : decode cX6_pressStep 26 = .ok (.iconst 1, 1) := by decide +kernel
theorem dX6_pressStep_27 : decode cX6_pressStep 27 = .ok (.ireturn, 1) := by decide +kernel
theorem dX6_pressOne_0 : decode cX6_pressOne 0 = .ok (.aload_n 0, 1) := by decide +kernel
theorem dX6_pressOne_1 : decode cX6_pressOne 1 = .ok (.iconst 0, 1) := by decide +kernel
theorem dX6_pressOne_2 : decode cX6_pressOne 2 = .ok (.iload_n 1, 1) := by decide +kernel
theorem dX6_pressOne_3 : decode cX6_pressOne 3 = .ok (.aload_n 0, 1) := by decide +kernel
theorem dX6_pressOne_4 : decode cX6_pressOne 4 = .ok (.getfield 15, 3) := by decide +kernel
theorem dX6_pressOne_7 : decode cX6_pressOne 7 = .ok (.invokevirtual 142, 3) := by decide +kernel
theorem dX6_pressOne_10 : decode cX6_pressOne 10 = .ok (.istore_n 2, 1) := by decide +kernel
theorem dX6_pressOne_11 : decode cX6_pressOne 11 = .ok (.aload_n 0, 1) := by decide +kernel
theorem dX6_pressOne_12 : decode cX6_pressOne 12 = .ok (.getfield 21, 3) := by decide +kernel
theorem dX6_pressOne_15 : decode cX6_pressOne 15 = .ok (.getfield 130, 3) := by decide +kernel
theorem dX6_pressOne_18 : decode cX6_pressOne 18 = .ok (.iload_n 1, 1) := by decide +kernel
theorem dX6_pressOne_19 : decode cX6_pressOne 19 = .ok (.iconst 0, 1) := by decide +kernel
theorem dX6_pressOne_20 : decode cX6_pressOne 20 = .ok (.aload_n 0, 1) := by decide +kernel
theorem dX6_pressOne_21 : decode cX6_pressOne 21 = .ok (.getfield 21, 3) := by decide +kernel
theorem dX6_pressOne_24 : decode cX6_pressOne 24 = .ok (.getfield 130, 3) := by decide +kernel
theorem dX6_pressOne_27 : decode cX6_pressOne 27 = .ok (.iload_n 1, 1) := by decide +kernel
theorem dX6_pressOne_28 : decode cX6_pressOne 28 = .ok (.iaload, 1) := by decide +kernel
theorem dX6_pressOne_29 : decode cX6_pressOne 29 = .ok (.iload_n 2, 1) := by decide +kernel
theorem dX6_pressOne_30 : decode cX6_pressOne 30 = .ok (.isub, 1) := by decide +kernel
theorem dX6_pressOne_31 : decode cX6_pressOne 31 = .ok (.invokestatic 146, 3) := by decide +kernel
theorem dX6_pressOne_34 : decode cX6_pressOne 34 = .ok (.iastore, 1) := by decide +kernel
theorem dX6_pressOne_35 : decode cX6_pressOne 35 = .ok (.aload_n 0, 1) := by decide +kernel
theorem dX6_pressOne_36 : decode cX6_pressOne 36 = .ok (.getfield 21, 3) := by decide +kernel
theorem dX6_pressOne_39 : decode cX6_pressOne 39 = .ok (.invokevirtual 152, 3) := by decide +kernel
theorem dX6_pressOne_42 : decode cX6_pressOne 42 = .ok (.istore_n 3, 1) := by decide +kernel
theorem dX6_pressOne_43 : decode cX6_pressOne 43 = .ok (.iload_n 3, 1) := by decide +kernel
theorem dX6_pressOne_44 : decode cX6_pressOne 44 = .ok (.aload_n 0, 1) := by decide +kernel
theorem dX6_pressOne_45 : decode cX6_pressOne 45 = .ok (.iconst 1, 1) := by decide +kernel
theorem dX6_pressOne_46 : decode cX6_pressOne 46 = .ok (.iload_n 1, 1) := by decide +kernel
theorem dX6_pressOne_47 : decode cX6_pressOne 47 = .ok (.aload_n 0, 1) := by decide +kernel
theorem dX6_pressOne_48 : decode cX6_pressOne 48 = .ok (.getfield 15, 3) := by decide +kernel
theorem dX6_pressOne_51 : decode cX6_pressOne 51 = .ok (.invokevirtual 142, 3) := by decide +kernel
theorem dX6_pressOne_54 : decode cX6_pressOne 54 = .ok (.if_icmp .ge 35, 3) := by decide +kernel
theorem dX6_pressOne_57 : decode cX6_pressOne 57 = .ok (.aload_n 0, 1) := by decide +kernel
theorem dX6_pressOne_58 : decode cX6_pressOne 58 = .ok (.getfield 21, 3) := by decide +kernel
theorem dX6_pressOne_61 : decode cX6_pressOne 61 = .ok (.getfield 118, 3) := by decide +kernel
theorem dX6_pressOne_64 : decode cX6_pressOne 64 = .ok (.iload_n 1, 1) := by decide +kernel
theorem dX6_pressOne_65 : decode cX6_pressOne 65 = .ok (.iconst 2, 1) := by decide +kernel
theorem dX6_pressOne_66 : decode cX6_pressOne 66 = .ok (.iastore, 1) := by decide +kernel
theorem dX6_pressOne_67 : decode cX6_pressOne 67 = .ok (.aload_n 0, 1) := by decide +kernel
theorem dX6_pressOne_68 : decode cX6_pressOne 68 = .ok (.getfield 21, 3) := by decide +kernel
theorem dX6_pressOne_71 : decode cX6_pressOne 71 = .ok (.getfield 130, 3) := by decide +kernel
theorem dX6_pressOne_74 : decode cX6_pressOne 74 = .ok (.iload_n 1, 1) := by decide +kernel
theorem dX6_pressOne_75 : decode cX6_pressOne 75 = .ok (.iconst 0, 1) := by decide +kernel
theorem dX6_pressOne_76 : decode cX6_pressOne 76 = .ok (.iastore, 1) := by decide +kernel
theorem dX6_pressOne_77 : decode cX6_pressOne 77 = .ok (.aload_n 0, 1) := by decide +kernel
theorem dX6_pressOne_78 : decode cX6_pressOne 78 = .ok (.getfield 21, 3) := by decide +kernel
theorem dX6_pressOne_81 : decode cX6_pressOne 81 = .ok (.iload_n 1, 1) := by decide +kernel
theorem dX6_pressOne_82 : decode cX6_pressOne 82 = .ok (.iconst 1, 1) := by decide +kernel
theorem dX6_pressOne_83 : decode cX6_pressOne 83 = .ok (.invokevirtual 156, 3) := by decide +kernel
theorem dX6_pressOne_86 : decode cX6_pressOne 86 = .ok (.goto 20, 3) := by decide +kernel
theorem dX6_pressOne_89 : decode cX6_pressOne 89 = .ok (.aload_n 0, 1) := by decide +kernel
theorem dX6_pressOne_90 : decode cX6_pressOne 90 = .ok (.getfield 21, 3) := by decide +kernel
theorem dX6_pressOne_93 : decode cX6_pressOne 93 = .ok (.getfield 130, 3) := by decide +kernel
theorem dX6_pressOne_96 : decode cX6_pressOne 96 = .ok (.iload_n 1, 1) := by decide +kernel
theorem dX6_pressOne_97 : decode cX6_pressOne 97 = .ok (.iaload, 1) := by decide +kernel
theorem dX6_pressOne_98 : decode cX6_pressOne 98 = .ok (.ifCond .ne 8, 3) := by decide +kernel
theorem dX6_pressOne_101 : decode cX6_pressOne 101 = .ok (.aload_n 0, 1) := by decide +kernel
theorem dX6_pressOne_102 : decode cX6_pressOne 102 = .ok (.iload_n 1, 1) := by decide +kernel
theorem dX6_pressOne_103 : decode cX6_pressOne 103 = .ok (.invokevirtual 160, 3) := by decide +kernel
theorem dX6_pressOne_106 : decode cX6_pressOne 106 = .ok (.aload_n 0, 1) := by decide +kernel
theorem dX6_pressOne_107 : decode cX6_pressOne 107 = .ok (.getfield 39, 3) := by decide +kernel
theorem dX6_pressOne_110 : decode cX6_pressOne 110 = .ok (.iload_n 1, 1) := by decide +kernel
theorem dX6_pressOne_111 : decode cX6_pressOne 111 = .ok (.iaload, 1) := by decide +kernel
theorem dX6_pressOne_112 : decode cX6_pressOne 112 = .ok (.istore 4, 2) := by decide +kernel
theorem dX6_pressOne_114 : decode cX6_pressOne 114 = .ok (.aload_n 0, 1) := by decide +kernel
theorem dX6_pressOne_115 : decode cX6_pressOne 115 = .ok (.getfield 21, 3) := by decide +kernel
theorem dX6_pressOne_118 : decode cX6_pressOne 118 = .ok (.getfield 121, 3) := by decide +kernel
theorem dX6_pressOne_121 : decode cX6_pressOne 121 = .ok (.iload 4, 2) := by decide +kernel
theorem dX6_pressOne_123 : decode cX6_pressOne 123 = .ok (.iconst 0, 1) := by decide +kernel
theorem dX6_pressOne_124 : decode cX6_pressOne 124 = .ok (.aload_n 0, 1) := by decide +kernel
theorem dX6_pressOne_125 : decode cX6_pressOne 125 = .ok (.getfield 21, 3) := by decide +kernel
theorem dX6_pressOne_128 : decode cX6_pressOne 128 = .ok (.getfield 121, 3) := by decide +kernel
theorem dX6_pressOne_131 : decode cX6_pressOne 131 = .ok (.iload 4, 2) := by decide +kernel
theorem dX6_pressOne_133 : decode cX6_pressOne 133 = .ok (.iaload, 1) := by decide +kernel
theorem dX6_pressOne_134 : decode cX6_pressOne 134 = .ok (.aload_n 0, 1) := by decide +kernel
theorem dX6_pressOne_135 : decode cX6_pressOne 135 = .ok (.iconst 2, 1) := by decide +kernel
theorem dX6_pressOne_136 : decode cX6_pressOne 136 = .ok (.iload_n 1, 1) := by decide +kernel
theorem dX6_pressOne_137 : decode cX6_pressOne 137 = .ok (.aload_n 0, 1) := by decide +kernel
theorem dX6_pressOne_138 : decode cX6_pressOne 138 = .ok (.getfield 15, 3) := by decide +kernel
theorem dX6_pressOne_141 : decode cX6_pressOne 141 = .ok (.invokevirtual 142, 3) := by decide +kernel
theorem dX6_pressOne_144 : decode cX6_pressOne 144 = .ok (.isub, 1) := by decide +kernel
theorem dX6_pressOne_145 : decode cX6_pressOne 145 = .ok (.invokestatic 146, 3) := by decide +kernel
theorem dX6_pressOne_148 : decode cX6_pressOne 148 = .ok (.iastore, 1) := by decide +kernel
theorem dX6_pressOne_149 : decode cX6_pressOne 149 = .ok (.return_, 1) := by decide +kernel
theorem dX6_goWithHanging_0 : decode cX6_goWithHanging 0 = .ok (.iconst 0, 1) := by decide +kernel
theorem dX6_goWithHanging_1 : decode cX6_goWithHanging 1 = .ok (.istore_n 2, 1) := by decide +kernel
theorem dX6_goWithHanging_2 : decode cX6_goWithHanging 2 = .ok (.iload_n 2, 1) := by decide +kernel
theorem dX6_goWithHanging_3 : decode cX6_goWithHanging 3 = .ok (.aload_n 0, 1) := by decide +kernel
theorem dX6_goWithHanging_4 : decode cX6_goWithHanging 4 = .ok (.getfield 21, 3) := by decide +kernel
theorem dX6_goWithHanging_7 : decode cX6_goWithHanging 7 = .ok (.getfield 111, 3) := by decide +kernel
theorem dX6_goWithHanging_10 : decode cX6_goWithHanging 10 = .ok (.if_icmp .ge 40, 3) := by decide +kernel
theorem dX6_goWithHanging_13 : decode cX6_goWithHanging 13 = .ok (.aload_n 0, 1) := by decide +kernel
theorem dX6_goWithHanging_14 : decode cX6_goWithHanging 14 = .ok (.getfield 54, 3) := by decide +kernel
theorem dX6_goWithHanging_17 : decode cX6_goWithHanging 17 = .ok (.iload_n 1, 1) := by decide +kernel
theorem dX6_goWithHanging_18 : decode cX6_goWithHanging 18 = .ok (.iaload, 1) := by decide +kernel
theorem dX6_goWithHanging_19 : decode cX6_goWithHanging 19 = .ok (.iload_n 2, 1) := by decide +kernel
theorem dX6_goWithHanging_20 : decode cX6_goWithHanging 20 = .ok (.ishr, 1) := by decide +kernel
theorem dX6_goWithHanging_21 : decode cX6_goWithHanging 21 = .ok (.iconst 1, 1) := by decide +kernel
theorem dX6_goWithHanging_22 : decode cX6_goWithHanging 22 = .ok (.iand, 1) := by decide +kernel
theorem dX6_goWithHanging_23 : decode cX6_goWithHanging 23 = .ok (.iconst 1, 1) := by decide +kernel
theorem dX6_goWithHanging_24 : decode cX6_goWithHanging 24 = .ok (.if_icmp .ne 20, 3) := by decide +kernel
theorem dX6_goWithHanging_27 : decode cX6_goWithHanging 27 = .ok (.aload_n 0, 1) := by decide +kernel
theorem dX6_goWithHanging_28 : decode cX6_goWithHanging 28 = .ok (.getfield 21, 3) := by decide +kernel
theorem dX6_goWithHanging_31 : decode cX6_goWithHanging 31 = .ok (.getfield 118, 3) := by decide +kernel
theorem dX6_goWithHanging_34 : decode cX6_goWithHanging 34 = .ok (.iload_n 2, 1) := by decide +kernel
theorem dX6_goWithHanging_35 : decode cX6_goWithHanging 35 = .ok (.iaload, 1) := by decide +kernel
theorem dX6_goWithHanging_36 : decode cX6_goWithHanging 36 = .ok (.ifCond .ne 8, 3) := by decide +kernel
theorem dX6_goWithHanging_39 : decode cX6_goWithHanging 39 = .ok (.aload_n 0, 1) := by decide +kernel
theorem dX6_goWithHanging_40 : decode cX6_goWithHanging 40 = .ok (.iload_n 2, 1) := by decide +kernel
theorem dX6_goWithHanging_41 : decode cX6_goWithHanging 41 = .ok (.invokevirtual 163, 3) := by decide +kernel
theorem dX6_goWithHanging_44 : decode cX6_goWithHanging 44 = .ok (.iinc 2 1, 3) := by decide +kernel
theorem dX6_goWithHanging_47 : decode cX6_goWithHanging 47 = .ok (.goto (-45), 3) := by decide +kernel
theorem dX6_goWithHanging_50 : decode cX6_goWithHanging 50 = .ok (.return_, 1) := by decide +kernel
theorem dX6_goOne_0 : decode cX6_goOne 0 = .ok (.aload_n 0, 1) := by decide +kernel
theorem dX6_goOne_1 : decode cX6_goOne 1 = .ok (.getfield 21, 3) := by decide +kernel
theorem dX6_goOne_4 : decode cX6_goOne 4 = .ok (.getfield 118, 3) := by decide +kernel
theorem dX6_goOne_7 : decode cX6_goOne 7 = .ok (.iload_n 1, 1) := by decide +kernel
theorem dX6_goOne_8 : decode cX6_goOne 8 = .ok (.iconst 1, 1) := by decide +kernel
theorem dX6_goOne_9 : decode cX6_goOne 9 = .ok (.iastore, 1) := by decide +kernel
theorem dX6_goOne_10 : decode cX6_goOne 10 = .ok (.aload_n 0, 1) := by decide +kernel
theorem dX6_goOne_11 : decode cX6_goOne 11 = .ok (.getfield 21, 3) := by decide +kernel
theorem dX6_goOne_14 : decode cX6_goOne 14 = .ok (.getfield 130, 3) := by decide +kernel
theorem dX6_goOne_17 : decode cX6_goOne 17 = .ok (.iload_n 1, 1) := by decide +kernel
theorem dX6_goOne_18 : decode cX6_goOne 18 = .ok (.iconst 0, 1) := by decide +kernel
theorem dX6_goOne_19 : decode cX6_goOne 19 = .ok (.iastore, 1) := by decide +kernel
theorem dX6_goOne_20 : decode cX6_goOne 20 = .ok (.aload_n 0, 1) := by decide +kernel
theorem dX6_goOne_21 : decode cX6_goOne 21 = .ok (.getfield 21, 3) := by decide +kernel
theorem dX6_goOne_24 : decode cX6_goOne 24 = .ok (.iload_n 1, 1) := by decide +kernel
theorem dX6_goOne_25 : decode cX6_goOne 25 = .ok (.iconst 0, 1) := by decide +kernel
theorem dX6_goOne_26 : decode cX6_goOne 26 = .ok (.invokevirtual 156, 3) := by decide +kernel
theorem dX6_goOne_29 : decode cX6_goOne 29 = .ok (.return_, 1) := by decide +kernel
theorem dX6_mayComeBack_0 : decode cX6_mayComeBack 0 = .ok (.aload_n 0, 1) := by decide +kernel
theorem dX6_mayComeBack_1 : decode cX6_mayComeBack 1 = .ok (.iload_n 1, 1) := by decide +kernel
theorem dX6_mayComeBack_2 : decode cX6_mayComeBack 2 = .ok (.invokevirtual 114, 3) := by decide +kernel
theorem dX6_mayComeBack_5 : decode cX6_mayComeBack 5 = .ok (.ifCond .eq 36, 3) := by decide +kernel
theorem dX6_mayComeBack_8 : decode cX6_mayComeBack 8 = .ok (.aload_n 0, 1) := by decide +kernel
theorem dX6_mayComeBack_9 : decode cX6_mayComeBack 9 = .ok (.getfield 21, 3) := by decide +kernel
theorem dX6_mayComeBack_12 : decode cX6_mayComeBack 12 = .ok (.getfield 118, 3) := by decide +kernel
theorem dX6_mayComeBack_15 : decode cX6_mayComeBack 15 = .ok (.iload_n 1, 1) := by decide +kernel
theorem dX6_mayComeBack_16 : decode cX6_mayComeBack 16 = .ok (.iaload, 1) := by decide +kernel
theorem dX6_mayComeBack_17 : decode cX6_mayComeBack 17 = .ok (.iconst 1, 1) := by decide +kernel
theorem dX6_mayComeBack_18 : decode cX6_mayComeBack 18 = .ok (.if_icmp .ne 23, 3) := by decide +kernel
theorem dX6_mayComeBack_21 : decode cX6_mayComeBack 21 = .ok (.aload_n 0, 1) := by decide +kernel
theorem dX6_mayComeBack_22 : decode cX6_mayComeBack 22 = .ok (.getfield 51, 3) := by decide +kernel
theorem dX6_mayComeBack_25 : decode cX6_mayComeBack 25 = .ok (.iload_n 1, 1) := by decide +kernel
theorem dX6_mayComeBack_26 : decode cX6_mayComeBack 26 = .ok (.iaload, 1) := by decide +kernel
theorem dX6_mayComeBack_27 : decode cX6_mayComeBack 27 = .ok (.aload_n 0, 1) := by decide +kernel
theorem dX6_mayComeBack_28 : decode cX6_mayComeBack 28 = .ok (.invokevirtual 166, 3) := by decide +kernel
theorem dX6_mayComeBack_31 : decode cX6_mayComeBack 31 = .ok (.iconst (-1), 1) := by decide +kernel
theorem dX6_mayComeBack_32 : decode cX6_mayComeBack 32 = .ok (.ixor, 1) := by decide +kernel
theorem dX6_mayComeBack_33 : decode cX6_mayComeBack 33 = .ok (.iand, 1) := by decide +kernel
theorem dX6_mayComeBack_34 : decode cX6_mayComeBack 34 = .ok (.ifCond .ne 7, 3) := by decide +kernel
theorem dX6_mayComeBack_37 : decode cX6_mayComeBack 37 = .ok (.iconst 1, 1) := by decide +kernel
theorem dX6_mayComeBack_38 : decode cX6_mayComeBack 38 = .ok (.goto 4, 3) := by decide +kernel
theorem dX6_mayComeBack_41 : decode cX6_mayComeBack 41 = .ok (.iconst 0, 1) := by decide +kernel
theorem dX6_mayComeBack_42 : decode cX6_mayComeBack 42 = .ok (.ireturn, 1) := by decide +kernel
theorem dX6_comeBack_0 : decode cX6_comeBack 0 = .ok (.aload_n 0, 1) := by decide +kernel
theorem dX6_comeBack_1 : decode cX6_comeBack 1 = .ok (.getfield 21, 3) := by decide +kernel
theorem dX6_comeBack_4 : decode cX6_comeBack 4 = .ok (.getfield 118, 3) := by decide +kernel
theorem dX6_comeBack_7 : decode cX6_comeBack 7 = .ok (.iload_n 1, 1) := by decide +kernel
theorem dX6_comeBack_8 : decode cX6_comeBack 8 = .ok (.iconst 0, 1) := by decide +kernel
theorem dX6_comeBack_9 : decode cX6_comeBack 9 = .ok (.iastore, 1) := by decide +kernel
theorem dX6_comeBack_10 : decode cX6_comeBack 10 = .ok (.aload_n 0, 1) := by decide +kernel
theorem dX6_comeBack_11 : decode cX6_comeBack 11 = .ok (.getfield 21, 3) := by decide +kernel
theorem dX6_comeBack_14 : decode cX6_comeBack 14 = .ok (.getfield 130, 3) := by decide +kernel
theorem dX6_comeBack_17 : decode cX6_comeBack 17 = .ok (.iload_n 1, 1) := by decide +kernel
theorem dX6_comeBack_18 : decode cX6_comeBack 18 = .ok (.iload_n 2, 1) := by decide +kernel
theorem dX6_comeBack_19 : decode cX6_comeBack 19 = .ok (.iastore, 1) := by decide +kernel
theorem dX6_comeBack_20 : decode cX6_comeBack 20 = .ok (.aload_n 0, 1) := by decide +kernel
theorem dX6_comeBack_21 : decode cX6_comeBack 21 = .ok (.getfield 21, 3) := by decide +kernel
theorem dX6_comeBack_24 : decode cX6_comeBack 24 = .ok (.iload_n 1, 1) := by decide +kernel
theorem dX6_comeBack_25 : decode cX6_comeBack 25 = .ok (.iconst 2, 1) := by decide +kernel
theorem dX6_comeBack_26 : decode cX6_comeBack 26 = .ok (.invokevirtual 156, 3) := by decide +kernel
theorem dX6_comeBack_29 : decode cX6_comeBack 29 = .ok (.return_, 1) := by decide +kernel
theorem dX6_patternStep_0 : decode cX6_patternStep 0 = .ok (.aload_n 0, 1) := by decide +kernel
theorem dX6_patternStep_1 : decode cX6_patternStep 1 = .ok (.iload_n 1, 1) := by decide +kernel
theorem dX6_patternStep_2 : decode cX6_patternStep 2 = .ok (.invokevirtual 169, 3) := by decide +kernel
theorem dX6_patternStep_5 : decode cX6_patternStep 5 = .ok (.ifCond .ne 5, 3) := by decide +kernel
theorem dX6_patternStep_8 : decode cX6_patternStep 8 = .ok (.iconst 0, 1) := by decide +kernel
theorem dX6_patternStep_9 : decode cX6_patternStep 9 = .ok (.ireturn, 1) := by decide +kernel
theorem dX6_patternStep_10 : decode cX6_patternStep 10 = .ok (.aload_n 0, 1) := by decide +kernel
theorem dX6_patternStep_11 : decode cX6_patternStep 11 = .ok (.getfield 28, 3) := by decide +kernel
theorem dX6_patternStep_14 : decode cX6_patternStep 14 = .ok (.aload_n 0, 1) := by decide +kernel
theorem dX6_patternStep_15 : decode cX6_patternStep 15 = .ok (.getfield 21, 3) := by decide +kernel
theorem dX6_patternStep_18 : decode cX6_patternStep 18 = .ok (.invokevirtual 136, 3) := by decide +kernel
theorem dX6_patternStep_21 : decode cX6_patternStep 21 = .ok (.aload_n 0, 1) := by decide +kernel
theorem dX6_patternStep_22 : decode cX6_patternStep 22 = .ok (.iload_n 1, 1) := by decide +kernel
theorem dX6_patternStep_23 : decode cX6_patternStep 23 = .ok (.aload_n 0, 1) := by decide +kernel
theorem dX6_patternStep_24 : decode cX6_patternStep 24 = .ok (.getfield 45, 3) := by decide +kernel
theorem dX6_patternStep_27 : decode cX6_patternStep 27 = .ok (.iload_n 1, 1) := by decide +kernel
theorem dX6_patternStep_28 : decode cX6_patternStep 28 = .ok (.iaload, 1) := by decide +kernel
theorem dX6_patternStep_29 : decode cX6_patternStep 29 = .ok (.invokevirtual 172, 3) := by decide +kernel
theorem dX6_patternStep_32 : decode cX6_patternStep 32 = .ok (.iconst 1, 1) := by decide +kernel
theorem dX6_patternStep_33 : decode cX6_patternStep 33 = .ok (.ireturn, 1) := by decide +kernel
theorem dX6_dampStep_0 : decode cX6_dampStep 0 = .ok (.aload_n 0, 1) := by decide +kernel
theorem dX6_dampStep_1 : decode cX6_dampStep 1 = .ok (.getfield 28, 3) := by decide +kernel
theorem dX6_dampStep_4 : decode cX6_dampStep 4 = .ok (.aload_n 0, 1) := by decide +kernel
theorem dX6_dampStep_5 : decode cX6_dampStep 5 = .ok (.getfield 21, 3) := by decide +kernel
theorem dX6_dampStep_8 : decode cX6_dampStep 8 = .ok (.invokevirtual 136, 3) := by decide +kernel
theorem dX6_dampStep_11 : decode cX6_dampStep 11 = .ok (.aload_n 0, 1) := by decide +kernel
theorem dX6_dampStep_12 : decode cX6_dampStep 12 = .ok (.iload_n 1, 1) := by decide +kernel
theorem dX6_dampStep_13 : decode cX6_dampStep 13 = .ok (.invokevirtual 175, 3) := by decide +kernel
theorem dX6_dampStep_16 : decode cX6_dampStep 16 = .ok (.ireturn, 1) := by decide +kernel
theorem dX6_dampen_0 : decode cX6_dampen 0 = .ok (.iconst 0, 1) := by decide +kernel
theorem dX6_dampen_1 : decode cX6_dampen 1 = .ok (.istore_n 2, 1) := by decide +kernel
theorem dX6_dampen_2 : decode cX6_dampen 2 = .ok (.iconst 0, 1) := by decide +kernel
theorem dX6_dampen_3 : decode cX6_dampen 3 = .ok (.istore_n 3, 1) := by decide +kernel
theorem dX6_dampen_4 : decode cX6_dampen 4 = .ok (.iload_n 3, 1) := by decide +kernel
theorem dX6_dampen_5 : decode cX6_dampen 5 = .ok (.aload_n 0, 1) := by decide +kernel
theorem dX6_dampen_6 : decode cX6_dampen 6 = .ok (.getfield 21, 3) := by decide +kernel
theorem dX6_dampen_9 : decode cX6_dampen 9 = .ok (.getfield 111, 3) := by decide +kernel
theorem dX6_dampen_12 : decode cX6_dampen 12 = .ok (.if_icmp .ge 31, 3) := by decide +kernel
theorem dX6_dampen_15 : decode cX6_dampen 15 = .ok (.iload_n 2, 1) := by decide +kernel
theorem dX6_dampen_16 : decode cX6_dampen 16 = .ok (.iload_n 1, 1) := by decide +kernel
theorem dX6_dampen_17 : decode cX6_dampen 17 = .ok (.if_icmp .ge 26, 3) := by decide +kernel
theorem dX6_dampen_20 : decode cX6_dampen 20 = .ok (.aload_n 0, 1) := by decide +kernel
theorem dX6_dampen_21 : decode cX6_dampen 21 = .ok (.iload_n 3, 1) := by decide +kernel
theorem dX6_dampen_22 : decode cX6_dampen 22 = .ok (.invokevirtual 169, 3) := by decide +kernel
theorem dX6_dampen_25 : decode cX6_dampen 25 = .ok (.ifCond .eq 12, 3) := by decide +kernel
theorem dX6_dampen_28 : decode cX6_dampen 28 = .ok (.aload_n 0, 1) := by decide +kernel
theorem dX6_dampen_29 : decode cX6_dampen 29 = .ok (.iload_n 3, 1) := by decide +kernel
theorem dX6_dampen_30 : decode cX6_dampen 30 = .ok (.iconst 1, 1) := by decide +kernel
theorem dX6_dampen_31 : decode cX6_dampen 31 = .ok (.invokevirtual 172, 3) := by decide +kernel
theorem dX6_dampen_34 : decode cX6_dampen 34 = .ok (.iinc 2 1, 3) := by decide +kernel
theorem dX6_dampen_37 : decode cX6_dampen 37 = .ok (.iinc 3 1, 3) := by decide +kernel
theorem dX6_dampen_40 : decode cX6_dampen 40 = .ok (.goto (-36), 3) := by decide +kernel
theorem dX6_dampen_43 : decode cX6_dampen 43 = .ok (.iload_n 2, 1) := by decide +kernel
theorem dX6_dampen_44 : decode cX6_dampen 44 = .ok (.ireturn, 1) := by decide +kernel
theorem dX6_hourSteps_0 : decode cX6_hourSteps 0 = .ok (.iconst 0, 1) := by decide +kernel
theorem dX6_hourSteps_1 : decode cX6_hourSteps 1 = .ok (.istore_n 2, 1) := by decide +kernel
theorem dX6_hourSteps_2 : decode cX6_hourSteps 2 = .ok (.iload_n 2, 1) := by decide +kernel
theorem dX6_hourSteps_3 : decode cX6_hourSteps 3 = .ok (.iload_n 1, 1) := by decide +kernel
theorem dX6_hourSteps_4 : decode cX6_hourSteps 4 = .ok (.if_icmp .ge 37, 3) := by decide +kernel
theorem dX6_hourSteps_7 : decode cX6_hourSteps 7 = .ok (.aload_n 0, 1) := by decide +kernel
theorem dX6_hourSteps_8 : decode cX6_hourSteps 8 = .ok (.getfield 21, 3) := by decide +kernel
theorem dX6_hourSteps_11 : decode cX6_hourSteps 11 = .ok (.getfield 179, 3) := by decide +kernel
theorem dX6_hourSteps_14 : decode cX6_hourSteps 14 = .ok (.sipush 9999, 3) := by decide +kernel
theorem dX6_hourSteps_17 : decode cX6_hourSteps 17 = .ok (.if_icmp .ge 24, 3) := by decide +kernel
theorem dX6_hourSteps_20 : decode cX6_hourSteps 20 = .ok (.aload_n 0, 1) := by decide +kernel
theorem dX6_hourSteps_21 : decode cX6_hourSteps 21 = .ok (.getfield 28, 3) := by decide +kernel
theorem dX6_hourSteps_24 : decode cX6_hourSteps 24 = .ok (.aload_n 0, 1) := by decide +kernel
theorem dX6_hourSteps_25 : decode cX6_hourSteps 25 = .ok (.getfield 21, 3) := by decide +kernel
theorem dX6_hourSteps_28 : decode cX6_hourSteps 28 = .ok (.invokevirtual 136, 3) := by decide +kernel
theorem dX6_hourSteps_31 : decode cX6_hourSteps 31 = .ok (.aload_n 0, 1) := by decide +kernel
theorem dX6_hourSteps_32 : decode cX6_hourSteps 32 = .ok (.invokevirtual 182, 3) := by decide +kernel
theorem dX6_hourSteps_35 : decode cX6_hourSteps 35 = .ok (.iinc 2 1, 3) := by decide +kernel
theorem dX6_hourSteps_38 : decode cX6_hourSteps 38 = .ok (.goto (-36), 3) := by decide +kernel
theorem dX6_hourSteps_41 : decode cX6_hourSteps 41 = .ok (.iload_n 2, 1) := by decide +kernel
theorem dX6_hourSteps_42 : decode cX6_hourSteps 42 = .ok (.ireturn, 1) := by decide +kernel
theorem dX6_passHour_0 : decode cX6_passHour 0 = .ok (.iconst 0, 1) := by decide +kernel
theorem dX6_passHour_1 : decode cX6_passHour 1 = .ok (.istore_n 1, 1) := by decide +kernel
theorem dX6_passHour_2 : decode cX6_passHour 2 = .ok (.iload_n 1, 1) := by decide +kernel
theorem dX6_passHour_3 : decode cX6_passHour 3 = .ok (.aload_n 0, 1) := by decide +kernel
theorem dX6_passHour_4 : decode cX6_passHour 4 = .ok (.getfield 21, 3) := by decide +kernel
theorem dX6_passHour_7 : decode cX6_passHour 7 = .ok (.getfield 111, 3) := by decide +kernel
theorem dX6_passHour_10 : decode cX6_passHour 10 = .ok (.if_icmp .ge 67, 3) := by decide +kernel
theorem dX6_passHour_13 : decode cX6_passHour 13 = .ok (.aload_n 0, 1) := by decide +kernel
theorem dX6_passHour_14 : decode cX6_passHour 14 = .ok (.getfield 21, 3) := by decide +kernel
theorem dX6_passHour_17 : decode cX6_passHour 17 = .ok (.getfield 179, 3) := by decide +kernel
theorem dX6_passHour_20 : decode cX6_passHour 20 = .ok (.bipush 10, 2) := by decide +kernel
theorem dX6_passHour_22 : decode cX6_passHour 22 = .ok (.irem, 1) := by decide +kernel
theorem dX6_passHour_23 : decode cX6_passHour 23 = .ok (.bipush 9, 2) := by decide +kernel
theorem dX6_passHour_25 : decode cX6_passHour 25 = .ok (.if_icmp .ne 52, 3) := by decide +kernel
theorem dX6_passHour_28 : decode cX6_passHour 28 = .ok (.aload_n 0, 1) := by decide +kernel
theorem dX6_passHour_29 : decode cX6_passHour 29 = .ok (.getfield 21, 3) := by decide +kernel
theorem dX6_passHour_32 : decode cX6_passHour 32 = .ok (.getfield 118, 3) := by decide +kernel
theorem dX6_passHour_35 : decode cX6_passHour 35 = .ok (.iload_n 1, 1) := by decide +kernel
theorem dX6_passHour_36 : decode cX6_passHour 36 = .ok (.iaload, 1) := by decide +kernel
theorem dX6_passHour_37 : decode cX6_passHour 37 = .ok (.ifCond .ne 34, 3) := by decide +kernel
theorem dX6_passHour_40 : decode cX6_passHour 40 = .ok (.aload_n 0, 1) := by decide +kernel
theorem dX6_passHour_41 : decode cX6_passHour 41 = .ok (.getfield 21, 3) := by decide +kernel
theorem dX6_passHour_44 : decode cX6_passHour 44 = .ok (.getfield 130, 3) := by decide +kernel
theorem dX6_passHour_47 : decode cX6_passHour 47 = .ok (.iload_n 1, 1) := by decide +kernel
theorem dX6_passHour_48 : decode cX6_passHour 48 = .ok (.iaload, 1) := by decide +kernel
theorem dX6_passHour_49 : decode cX6_passHour 49 = .ok (.aload_n 0, 1) := by decide +kernel
theorem dX6_passHour_50 : decode cX6_passHour 50 = .ok (.getfield 45, 3) := by decide +kernel
theorem dX6_passHour_53 : decode cX6_passHour 53 = .ok (.iload_n 1, 1) := by decide +kernel
theorem dX6_passHour_54 : decode cX6_passHour 54 = .ok (.iaload, 1) := by decide +kernel
theorem dX6_passHour_55 : decode cX6_passHour 55 = .ok (.if_icmp .ge 16, 3) := by decide +kernel
theorem dX6_passHour_58 : decode cX6_passHour 58 = .ok (.aload_n 0, 1) := by decide +kernel
theorem dX6_passHour_59 : decode cX6_passHour 59 = .ok (.getfield 21, 3) := by decide +kernel
theorem dX6_passHour_62 : decode cX6_passHour 62 = .ok (.getfield 130, 3) := by decide +kernel
theorem dX6_passHour_65 : decode cX6_passHour 65 = .ok (.iload_n 1, 1) := by decide +kernel
theorem dX6_passHour_66 : decode cX6_passHour 66 = .ok (.dup2, 1) := by decide +kernel
theorem dX6_passHour_67 : decode cX6_passHour 67 = .ok (.iaload, 1) := by decide +kernel
theorem dX6_passHour_68 : decode cX6_passHour 68 = .ok (.iconst 1, 1) := by decide +kernel
theorem dX6_passHour_69 : decode cX6_passHour 69 = .ok (.iadd, 1) := by decide +kernel
theorem dX6_passHour_70 : decode cX6_passHour 70 = .ok (.iastore, 1) := by decide +kernel
theorem dX6_passHour_71 : decode cX6_passHour 71 = .ok (.iinc 1 1, 3) := by decide +kernel
theorem dX6_passHour_74 : decode cX6_passHour 74 = .ok (.goto (-72), 3) := by decide +kernel
theorem dX6_passHour_77 : decode cX6_passHour 77 = .ok (.aload_n 0, 1) := by decide +kernel
theorem dX6_passHour_78 : decode cX6_passHour 78 = .ok (.getfield 21, 3) := by decide +kernel
theorem dX6_passHour_81 : decode cX6_passHour 81 = .ok (.dup, 1) := by decide +kernel
theorem dX6_passHour_82 : decode cX6_passHour 82 = .ok (.getfield 179, 3) := by decide +kernel
theorem dX6_passHour_85 : decode cX6_passHour 85 = .ok (.iconst 1, 1) := by decide +kernel
theorem dX6_passHour_86 : decode cX6_passHour 86 = .ok (.iadd, 1) := by decide +kernel
theorem dX6_passHour_87 : decode cX6_passHour 87 = .ok (.putfield 179, 3) := by decide +kernel
theorem dX6_passHour_90 : decode cX6_passHour 90 = .ok (.return_, 1) := by decide +kernel
theorem dX6_seasonStep_0 : decode cX6_seasonStep 0 = .ok (.aload_n 0, 1) := by decide +kernel
theorem dX6_seasonStep_1 : decode cX6_seasonStep 1 = .ok (.getfield 28, 3) := by decide +kernel
theorem dX6_seasonStep_4 : decode cX6_seasonStep 4 = .ok (.aload_n 0, 1) := by decide +kernel
theorem dX6_seasonStep_5 : decode cX6_seasonStep 5 = .ok (.getfield 21, 3) := by decide +kernel
theorem dX6_seasonStep_8 : decode cX6_seasonStep 8 = .ok (.invokevirtual 136, 3) := by decide +kernel
theorem dX6_seasonStep_11 : decode cX6_seasonStep 11 = .ok (.aload_n 0, 1) := by decide +kernel
theorem dX6_seasonStep_12 : decode cX6_seasonStep 12 = .ok (.getfield 21, 3) := by decide +kernel
theorem dX6_seasonStep_15 : decode cX6_seasonStep 15 = .ok (.iload_n 1, 1) := by decide +kernel
theorem dX6_seasonStep_16 : decode cX6_seasonStep 16 = .ok (.iconst 2, 1) := by decide +kernel
theorem dX6_seasonStep_17 : decode cX6_seasonStep 17 = .ok (.imul, 1) := by decide +kernel
theorem dX6_seasonStep_18 : decode cX6_seasonStep 18 = .ok (.sipush 167, 3) := by decide +kernel
theorem dX6_seasonStep_21 : decode cX6_seasonStep 21 = .ok (.iadd, 1) := by decide +kernel
theorem dX6_seasonStep_22 : decode cX6_seasonStep 22 = .ok (.putfield 185, 3) := by decide +kernel
theorem dX6_seasonStep_25 : decode cX6_seasonStep 25 = .ok (.iconst 0, 1) := by decide +kernel
theorem dX6_seasonStep_26 : decode cX6_seasonStep 26 = .ok (.istore_n 3, 1) := by decide +kernel
theorem dX6_seasonStep_27 : decode cX6_seasonStep 27 = .ok (.iload_n 3, 1) := by decide +kernel
theorem dX6_seasonStep_28 : decode cX6_seasonStep 28 = .ok (.iload_n 2, 1) := by decide +kernel
theorem dX6_seasonStep_29 : decode cX6_seasonStep 29 = .ok (.if_icmp .ge 13, 3) := by decide +kernel
theorem dX6_seasonStep_32 : decode cX6_seasonStep 32 = .ok (.aload_n 0, 1) := by decide +kernel
theorem dX6_seasonStep_33 : decode cX6_seasonStep 33 = .ok (.invokevirtual 188, 3) := by decide +kernel
theorem dX6_seasonStep_36 : decode cX6_seasonStep 36 = .ok (.iinc 3 1, 3) := by decide +kernel
theorem dX6_seasonStep_39 : decode cX6_seasonStep 39 = .ok (.goto (-12), 3) := by decide +kernel
theorem dX6_seasonStep_42 : decode cX6_seasonStep 42 = .ok (.aload_n 0, 1) := by decide +kernel
theorem dX6_seasonStep_43 : decode cX6_seasonStep 43 = .ok (.getfield 21, 3) := by decide +kernel
theorem dX6_seasonStep_46 : decode cX6_seasonStep 46 = .ok (.getfield 179, 3) := by decide +kernel
theorem dX6_seasonStep_49 : decode cX6_seasonStep 49 = .ok (.ireturn, 1) := by decide +kernel
theorem dX6_passSeason_0 : decode cX6_passSeason 0 = .ok (.aload_n 0, 1) := by decide +kernel
theorem dX6_passSeason_1 : decode cX6_passSeason 1 = .ok (.getfield 21, 3) := by decide +kernel
theorem dX6_passSeason_4 : decode cX6_passSeason 4 = .ok (.getfield 185, 3) := by decide +kernel
theorem dX6_passSeason_7 : decode cX6_passSeason 7 = .ok (.istore_n 1, 1) := by decide +kernel
theorem dX6_passSeason_8 : decode cX6_passSeason 8 = .ok (.aload_n 0, 1) := by decide +kernel
theorem dX6_passSeason_9 : decode cX6_passSeason 9 = .ok (.getfield 21, 3) := by decide +kernel
theorem dX6_passSeason_12 : decode cX6_passSeason 12 = .ok (.invokevirtual 152, 3) := by decide +kernel
theorem dX6_passSeason_15 : decode cX6_passSeason 15 = .ok (.pop, 1) := by decide +kernel
theorem dX6_passSeason_16 : decode cX6_passSeason 16 = .ok (.iload_n 1, 1) := by decide +kernel
theorem dX6_passSeason_17 : decode cX6_passSeason 17 = .ok (.bipush 6, 2) := by decide +kernel
theorem dX6_passSeason_19 : decode cX6_passSeason 19 = .ok (.irem, 1) := by decide +kernel
theorem dX6_passSeason_20 : decode cX6_passSeason 20 = .ok (.istore_n 2, 1) := by decide +kernel
theorem dX6_passSeason_21 : decode cX6_passSeason 21 = .ok (.iload_n 2, 1) := by decide +kernel
theorem dX6_passSeason_22 : decode cX6_passSeason 22 = .ok (.iconst 5, 1) := by decide +kernel
theorem dX6_passSeason_23 : decode cX6_passSeason 23 = .ok (.if_icmp .ne 20, 3) := by decide +kernel
theorem dX6_passSeason_26 : decode cX6_passSeason 26 = .ok (.aload_n 0, 1) := by decide +kernel
theorem dX6_passSeason_27 : decode cX6_passSeason 27 = .ok (.getfield 21, 3) := by decide +kernel
theorem dX6_passSeason_30 : decode cX6_passSeason 30 = .ok (.getfield 179, 3) := by decide +kernel
theorem dX6_passSeason_33 : decode cX6_passSeason 33 = .ok (.sipush 9999, 3) := by decide +kernel
theorem dX6_passSeason_36 : decode cX6_passSeason 36 = .ok (.if_icmp .ge 7, 3) := by decide +kernel
theorem dX6_passSeason_39 : decode cX6_passSeason 39 = .ok (.aload_n 0, 1) := by decide +kernel
theorem dX6_passSeason_40 : decode cX6_passSeason 40 = .ok (.invokevirtual 182, 3) := by decide +kernel
theorem dX6_passSeason_43 : decode cX6_passSeason 43 = .ok (.iload_n 2, 1) := by decide +kernel
theorem dX6_passSeason_44 : decode cX6_passSeason 44 = .ok (.iconst 5, 1) := by decide +kernel
theorem dX6_passSeason_45 : decode cX6_passSeason 45 = .ok (.if_icmp .eq 13, 3) := by decide +kernel
theorem dX6_passSeason_48 : decode cX6_passSeason 48 = .ok (.aload_n 0, 1) := by decide +kernel
theorem dX6_passSeason_49 : decode cX6_passSeason 49 = .ok (.getfield 21, 3) := by decide +kernel
theorem dX6_passSeason_52 : decode cX6_passSeason 52 = .ok (.getfield 111, 3) := by decide +kernel
theorem dX6_passSeason_55 : decode cX6_passSeason 55 = .ok (.ifCond .gt 4, 3) := by decide +kernel
theorem dX6_passSeason_58 : decode cX6_passSeason 58 = .ok (.return_, 1) := by decide +kernel
theorem dX6_passSeason_59 : decode cX6_passSeason 59 = .ok (.iload_n 1, 1) := by decide +kernel
theorem dX6_passSeason_60 : decode cX6_passSeason 60 = .ok (.aload_n 0, 1) := by decide +kernel
theorem dX6_passSeason_61 : decode cX6_passSeason 61 = .ok (.getfield 21, 3) := by decide +kernel
theorem dX6_passSeason_64 : decode cX6_passSeason 64 = .ok (.getfield 111, 3) := by decide +kernel
theorem dX6_passSeason_67 : decode cX6_passSeason 67 = .ok (.irem, 1) := by decide +kernel
theorem dX6_passSeason_68 : decode cX6_passSeason 68 = .ok (.istore_n 3, 1) := by decide +kernel
theorem dX6_passSeason_69 : decode cX6_passSeason 69 = .ok (.iload_n 2, 1) := by decide +kernel
theorem dX6_passSeason_70 : decode cX6_passSeason 70 = .ok (.iconst 2, 1) := by decide +kernel
theorem dX6_passSeason_71 : decode cX6_passSeason 71 = .ok (.if_icmp .gt 19, 3) := by decide +kernel
theorem dX6_passSeason_74 : decode cX6_passSeason 74 = .ok (.aload_n 0, 1) := by decide +kernel
theorem dX6_passSeason_75 : decode cX6_passSeason 75 = .ok (.iload_n 3, 1) := by decide +kernel
theorem dX6_passSeason_76 : decode cX6_passSeason 76 = .ok (.invokevirtual 133, 3) := by decide +kernel
theorem dX6_passSeason_79 : decode cX6_passSeason 79 = .ok (.ifCond .eq 11, 3) := by decide +kernel
theorem dX6_passSeason_82 : decode cX6_passSeason 82 = .ok (.aload_n 0, 1) := by decide +kernel
theorem dX6_passSeason_83 : decode cX6_passSeason 83 = .ok (.iload_n 3, 1) := by decide +kernel
theorem dX6_passSeason_84 : decode cX6_passSeason 84 = .ok (.invokevirtual 139, 3) := by decide +kernel
theorem dX6_passSeason_87 : decode cX6_passSeason 87 = .ok (.goto 41, 3) := by decide +kernel
theorem dX6_passSeason_90 : decode cX6_passSeason 90 = .ok (.iload_n 2, 1) := by decide +kernel
theorem dX6_passSeason_91 : decode cX6_passSeason 91 = .ok (.iconst 3, 1) := by decide +kernel
theorem dX6_passSeason_92 : decode cX6_passSeason 92 = .ok (.if_icmp .ne 25, 3) := by decide +kernel
theorem dX6_passSeason_95 : decode cX6_passSeason 95 = .ok (.aload_n 0, 1) := by decide +kernel
theorem dX6_passSeason_96 : decode cX6_passSeason 96 = .ok (.iload_n 3, 1) := by decide +kernel
theorem dX6_passSeason_97 : decode cX6_passSeason 97 = .ok (.invokevirtual 169, 3) := by decide +kernel
theorem dX6_passSeason_100 : decode cX6_passSeason 100 = .ok (.ifCond .eq 17, 3) := by decide +kernel
theorem dX6_passSeason_103 : decode cX6_passSeason 103 = .ok (.aload_n 0, 1) := by decide +kernel
theorem dX6_passSeason_104 : decode cX6_passSeason 104 = .ok (.iload_n 3, 1) := by decide +kernel
theorem dX6_passSeason_105 : decode cX6_passSeason 105 = .ok (.aload_n 0, 1) := by decide +kernel
theorem dX6_passSeason_106 : decode cX6_passSeason 106 = .ok (.getfield 45, 3) := by decide +kernel
theorem dX6_passSeason_109 : decode cX6_passSeason 109 = .ok (.iload_n 3, 1) := by decide +kernel
theorem dX6_passSeason_110 : decode cX6_passSeason 110 = .ok (.iaload, 1) := by decide +kernel
theorem dX6_passSeason_111 : decode cX6_passSeason 111 = .ok (.invokevirtual 172, 3) := by decide +kernel
theorem dX6_passSeason_114 : decode cX6_passSeason 114 = .ok (.goto 14, 3) := by decide +kernel
theorem dX6_passSeason_117 : decode cX6_passSeason 117 = .ok (.iload_n 2, 1) := by decide +kernel
theorem dX6_passSeason_118 : decode cX6_passSeason 118 = .ok (.iconst 4, 1) := by decide +kernel
theorem dX6_passSeason_119 : decode cX6_passSeason 119 = .ok (.if_icmp .ne 9, 3) := by decide +kernel
theorem dX6_passSeason_122 : decode cX6_passSeason 122 = .ok (.aload_n 0, 1) := by decide +kernel
theorem dX6_passSeason_123 : decode cX6_passSeason 123 = .ok (.iconst 1, 1) := by decide +kernel
theorem dX6_passSeason_124 : decode cX6_passSeason 124 = .ok (.invokevirtual 175, 3) := by decide +kernel
theorem dX6_passSeason_127 : decode cX6_passSeason 127 = .ok (.pop, 1) := by decide +kernel
theorem dX6_passSeason_128 : decode cX6_passSeason 128 = .ok (.return_, 1) := by decide +kernel
theorem dX6_takeBack_0 : decode cX6_takeBack 0 = .ok (.aload_n 0, 1) := by decide +kernel
theorem dX6_takeBack_1 : decode cX6_takeBack 1 = .ok (.getfield 28, 3) := by decide +kernel
theorem dX6_takeBack_4 : decode cX6_takeBack 4 = .ok (.getfield 191, 3) := by decide +kernel
theorem dX6_takeBack_7 : decode cX6_takeBack 7 = .ok (.ifCond .gt 5, 3) := by decide +kernel
theorem dX6_takeBack_10 : decode cX6_takeBack 10 = .ok (.iconst (-1), 1) := by decide +kernel
theorem dX6_takeBack_11 : decode cX6_takeBack 11 = .ok (.ireturn, 1) := by decide +kernel
theorem dX6_takeBack_12 : decode cX6_takeBack 12 = .ok (.aload_n 0, 1) := by decide +kernel
theorem dX6_takeBack_13 : decode cX6_takeBack 13 = .ok (.getfield 28, 3) := by decide +kernel
theorem dX6_takeBack_16 : decode cX6_takeBack 16 = .ok (.aload_n 0, 1) := by decide +kernel
theorem dX6_takeBack_17 : decode cX6_takeBack 17 = .ok (.getfield 28, 3) := by decide +kernel
theorem dX6_takeBack_20 : decode cX6_takeBack 20 = .ok (.getfield 191, 3) := by decide +kernel
theorem dX6_takeBack_23 : decode cX6_takeBack 23 = .ok (.iconst 1, 1) := by decide +kernel
theorem dX6_takeBack_24 : decode cX6_takeBack 24 = .ok (.isub, 1) := by decide +kernel
theorem dX6_takeBack_25 : decode cX6_takeBack 25 = .ok (.invokevirtual 194, 3) := by decide +kernel
theorem dX6_takeBack_28 : decode cX6_takeBack 28 = .ok (.astore_n 1, 1) := by decide +kernel
theorem dX6_takeBack_29 : decode cX6_takeBack 29 = .ok (.aload_n 0, 1) := by decide +kernel
theorem dX6_takeBack_30 : decode cX6_takeBack 30 = .ok (.getfield 28, 3) := by decide +kernel
theorem dX6_takeBack_33 : decode cX6_takeBack 33 = .ok (.dup, 1) := by decide +kernel
theorem dX6_takeBack_34 : decode cX6_takeBack 34 = .ok (.getfield 191, 3) := by decide +kernel
theorem dX6_takeBack_37 : decode cX6_takeBack 37 = .ok (.iconst 1, 1) := by decide +kernel
theorem dX6_takeBack_38 : decode cX6_takeBack 38 = .ok (.isub, 1) := by decide +kernel
theorem dX6_takeBack_39 : decode cX6_takeBack 39 = .ok (.putfield 191, 3) := by decide +kernel
theorem dX6_takeBack_42 : decode cX6_takeBack 42 = .ok (.aload_n 0, 1) := by decide +kernel
theorem dX6_takeBack_43 : decode cX6_takeBack 43 = .ok (.getfield 21, 3) := by decide +kernel
theorem dX6_takeBack_46 : decode cX6_takeBack 46 = .ok (.getfield 108, 3) := by decide +kernel
theorem dX6_takeBack_49 : decode cX6_takeBack 49 = .ok (.istore_n 2, 1) := by decide +kernel
theorem dX6_takeBack_50 : decode cX6_takeBack 50 = .ok (.aload_n 0, 1) := by decide +kernel
theorem dX6_takeBack_51 : decode cX6_takeBack 51 = .ok (.getfield 21, 3) := by decide +kernel
theorem dX6_takeBack_54 : decode cX6_takeBack 54 = .ok (.getfield 111, 3) := by decide +kernel
theorem dX6_takeBack_57 : decode cX6_takeBack 57 = .ok (.istore_n 3, 1) := by decide +kernel
theorem dX6_takeBack_58 : decode cX6_takeBack 58 = .ok (.aload_n 0, 1) := by decide +kernel
theorem dX6_takeBack_59 : decode cX6_takeBack 59 = .ok (.getfield 21, 3) := by decide +kernel
theorem dX6_takeBack_62 : decode cX6_takeBack 62 = .ok (.aload_n 1, 1) := by decide +kernel
theorem dX6_takeBack_63 : decode cX6_takeBack 63 = .ok (.invokevirtual 92, 3) := by decide +kernel
theorem dX6_takeBack_66 : decode cX6_takeBack 66 = .ok (.aload_n 1, 1) := by decide +kernel
theorem dX6_takeBack_67 : decode cX6_takeBack 67 = .ok (.getfield 108, 3) := by decide +kernel
theorem dX6_takeBack_70 : decode cX6_takeBack 70 = .ok (.istore 4, 2) := by decide +kernel
theorem dX6_takeBack_72 : decode cX6_takeBack 72 = .ok (.iload 4, 2) := by decide +kernel
theorem dX6_takeBack_74 : decode cX6_takeBack 74 = .ok (.iload_n 2, 1) := by decide +kernel
theorem dX6_takeBack_75 : decode cX6_takeBack 75 = .ok (.if_icmp .ge 26, 3) := by decide +kernel
theorem dX6_takeBack_78 : decode cX6_takeBack 78 = .ok (.aload_n 0, 1) := by decide +kernel
theorem dX6_takeBack_79 : decode cX6_takeBack 79 = .ok (.getfield 21, 3) := by decide +kernel
theorem dX6_takeBack_82 : decode cX6_takeBack 82 = .ok (.getfield 121, 3) := by decide +kernel
theorem dX6_takeBack_85 : decode cX6_takeBack 85 = .ok (.iload 4, 2) := by decide +kernel
theorem dX6_takeBack_87 : decode cX6_takeBack 87 = .ok (.aload_n 0, 1) := by decide +kernel
theorem dX6_takeBack_88 : decode cX6_takeBack 88 = .ok (.getfield 36, 3) := by decide +kernel
theorem dX6_takeBack_91 : decode cX6_takeBack 91 = .ok (.iload 4, 2) := by decide +kernel
theorem dX6_takeBack_93 : decode cX6_takeBack 93 = .ok (.iaload, 1) := by decide +kernel
theorem dX6_takeBack_94 : decode cX6_takeBack 94 = .ok (.iastore, 1) := by decide +kernel
theorem dX6_takeBack_95 : decode cX6_takeBack 95 = .ok (.iinc 4 1, 3) := by decide +kernel
theorem dX6_takeBack_98 : decode cX6_takeBack 98 = .ok (.goto (-26), 3) := by decide +kernel
theorem dX6_takeBack_101 : decode cX6_takeBack 101 = .ok (.aload_n 1, 1) := by decide +kernel
theorem dX6_takeBack_102 : decode cX6_takeBack 102 = .ok (.getfield 111, 3) := by decide +kernel
theorem dX6_takeBack_105 : decode cX6_takeBack 105 = .ok (.istore 4, 2) := by decide +kernel
theorem dX6_takeBack_107 : decode cX6_takeBack 107 = .ok (.iload 4, 2) := by decide +kernel
theorem dX6_takeBack_109 : decode cX6_takeBack 109 = .ok (.iload_n 3, 1) := by decide +kernel
theorem dX6_takeBack_110 : decode cX6_takeBack 110 = .ok (.if_icmp .ge 15, 3) := by decide +kernel
theorem dX6_takeBack_113 : decode cX6_takeBack 113 = .ok (.aload_n 0, 1) := by decide +kernel
theorem dX6_takeBack_114 : decode cX6_takeBack 114 = .ok (.iload 4, 2) := by decide +kernel
theorem dX6_takeBack_116 : decode cX6_takeBack 116 = .ok (.invokevirtual 127, 3) := by decide +kernel
theorem dX6_takeBack_119 : decode cX6_takeBack 119 = .ok (.iinc 4 1, 3) := by decide +kernel
theorem dX6_takeBack_122 : decode cX6_takeBack 122 = .ok (.goto (-15), 3) := by decide +kernel
theorem dX6_takeBack_125 : decode cX6_takeBack 125 = .ok (.aload_n 0, 1) := by decide +kernel
theorem dX6_takeBack_126 : decode cX6_takeBack 126 = .ok (.getfield 21, 3) := by decide +kernel
theorem dX6_takeBack_129 : decode cX6_takeBack 129 = .ok (.iload_n 2, 1) := by decide +kernel
theorem dX6_takeBack_130 : decode cX6_takeBack 130 = .ok (.putfield 108, 3) := by decide +kernel
theorem dX6_takeBack_133 : decode cX6_takeBack 133 = .ok (.aload_n 0, 1) := by decide +kernel
theorem dX6_takeBack_134 : decode cX6_takeBack 134 = .ok (.getfield 21, 3) := by decide +kernel
theorem dX6_takeBack_137 : decode cX6_takeBack 137 = .ok (.iload_n 3, 1) := by decide +kernel
theorem dX6_takeBack_138 : decode cX6_takeBack 138 = .ok (.putfield 111, 3) := by decide +kernel
theorem dX6_takeBack_141 : decode cX6_takeBack 141 = .ok (.aload_n 0, 1) := by decide +kernel
theorem dX6_takeBack_142 : decode cX6_takeBack 142 = .ok (.getfield 28, 3) := by decide +kernel
theorem dX6_takeBack_145 : decode cX6_takeBack 145 = .ok (.getfield 191, 3) := by decide +kernel
theorem dX6_takeBack_148 : decode cX6_takeBack 148 = .ok (.ireturn, 1) := by decide +kernel
theorem dX6_creasesOf_0 : decode cX6_creasesOf 0 = .ok (.iconst 0, 1) := by decide +kernel
theorem dX6_creasesOf_1 : decode cX6_creasesOf 1 = .ok (.istore_n 2, 1) := by decide +kernel
theorem dX6_creasesOf_2 : decode cX6_creasesOf 2 = .ok (.iconst 0, 1) := by decide +kernel
theorem dX6_creasesOf_3 : decode cX6_creasesOf 3 = .ok (.istore_n 3, 1) := by decide +kernel
theorem dX6_creasesOf_4 : decode cX6_creasesOf 4 = .ok (.iload_n 3, 1) := by decide +kernel
theorem dX6_creasesOf_5 : decode cX6_creasesOf 5 = .ok (.aload_n 0, 1) := by decide +kernel
theorem dX6_creasesOf_6 : decode cX6_creasesOf 6 = .ok (.getfield 21, 3) := by decide +kernel
theorem dX6_creasesOf_9 : decode cX6_creasesOf 9 = .ok (.getfield 111, 3) := by decide +kernel
theorem dX6_creasesOf_12 : decode cX6_creasesOf 12 = .ok (.if_icmp .ge 29, 3) := by decide +kernel
theorem dX6_creasesOf_15 : decode cX6_creasesOf 15 = .ok (.iload_n 2, 1) := by decide +kernel
theorem dX6_creasesOf_16 : decode cX6_creasesOf 16 = .ok (.aload_n 0, 1) := by decide +kernel
theorem dX6_creasesOf_17 : decode cX6_creasesOf 17 = .ok (.getfield 39, 3) := by decide +kernel
theorem dX6_creasesOf_20 : decode cX6_creasesOf 20 = .ok (.iload_n 3, 1) := by decide +kernel
theorem dX6_creasesOf_21 : decode cX6_creasesOf 21 = .ok (.iaload, 1) := by decide +kernel
theorem dX6_creasesOf_22 : decode cX6_creasesOf 22 = .ok (.iload_n 1, 1) := by decide +kernel
theorem dX6_creasesOf_23 : decode cX6_creasesOf 23 = .ok (.if_icmp .ne 9, 3) := by decide +kernel
theorem dX6_creasesOf_26 : decode cX6_creasesOf 26 = .ok (.iconst 1, 1) := by decide +kernel
theorem dX6_creasesOf_27 : decode cX6_creasesOf 27 = .ok (.iload_n 3, 1) := by decide +kernel
theorem dX6_creasesOf_28 : decode cX6_creasesOf 28 = .ok (.ishl, 1) := by decide +kernel
theorem dX6_creasesOf_29 : decode cX6_creasesOf 29 = .ok (.goto 4, 3) := by decide +kernel
theorem dX6_creasesOf_32 : decode cX6_creasesOf 32 = .ok (.iconst 0, 1) := by decide +kernel
theorem dX6_creasesOf_33 : decode cX6_creasesOf 33 = .ok (.ior, 1) := by decide +kernel
theorem dX6_creasesOf_34 : decode cX6_creasesOf 34 = .ok (.istore_n 2, 1) := by decide +kernel
theorem dX6_creasesOf_35 : decode cX6_creasesOf 35 = .ok (.iinc 3 1, 3) := by decide +kernel
theorem dX6_creasesOf_38 : decode cX6_creasesOf 38 = .ok (.goto (-34), 3) := by decide +kernel
theorem dX6_creasesOf_41 : decode cX6_creasesOf 41 = .ok (.iload_n 2, 1) := by decide +kernel
theorem dX6_creasesOf_42 : decode cX6_creasesOf 42 = .ok (.ireturn, 1) := by decide +kernel
theorem dX6_allThere_0 : decode cX6_allThere 0 = .ok (.iconst 0, 1) := by decide +kernel
theorem dX6_allThere_1 : decode cX6_allThere 1 = .ok (.istore_n 1, 1) := by decide +kernel
theorem dX6_allThere_2 : decode cX6_allThere 2 = .ok (.iconst 0, 1) := by decide +kernel
theorem dX6_allThere_3 : decode cX6_allThere 3 = .ok (.istore_n 2, 1) := by decide +kernel
theorem dX6_allThere_4 : decode cX6_allThere 4 = .ok (.iload_n 2, 1) := by decide +kernel
theorem dX6_allThere_5 : decode cX6_allThere 5 = .ok (.aload_n 0, 1) := by decide +kernel
theorem dX6_allThere_6 : decode cX6_allThere 6 = .ok (.getfield 21, 3) := by decide +kernel
theorem dX6_allThere_9 : decode cX6_allThere 9 = .ok (.getfield 111, 3) := by decide +kernel
theorem dX6_allThere_12 : decode cX6_allThere 12 = .ok (.if_icmp .ge 31, 3) := by decide +kernel
theorem dX6_allThere_15 : decode cX6_allThere 15 = .ok (.iload_n 1, 1) := by decide +kernel
theorem dX6_allThere_16 : decode cX6_allThere 16 = .ok (.aload_n 0, 1) := by decide +kernel
theorem dX6_allThere_17 : decode cX6_allThere 17 = .ok (.getfield 21, 3) := by decide +kernel
theorem dX6_allThere_20 : decode cX6_allThere 20 = .ok (.getfield 118, 3) := by decide +kernel
theorem dX6_allThere_23 : decode cX6_allThere 23 = .ok (.iload_n 2, 1) := by decide +kernel
theorem dX6_allThere_24 : decode cX6_allThere 24 = .ok (.iaload, 1) := by decide +kernel
theorem dX6_allThere_25 : decode cX6_allThere 25 = .ok (.ifCond .ne 9, 3) := by decide +kernel
theorem dX6_allThere_28 : decode cX6_allThere 28 = .ok (.iconst 1, 1) := by decide +kernel
theorem dX6_allThere_29 : decode cX6_allThere 29 = .ok (.iload_n 2, 1) := by decide +kernel
theorem dX6_allThere_30 : decode cX6_allThere 30 = .ok (.ishl, 1) := by decide +kernel
theorem dX6_allThere_31 : decode cX6_allThere 31 = .ok (.goto 4, 3) := by decide +kernel
theorem dX6_allThere_34 : decode cX6_allThere 34 = .ok (.iconst 0, 1) := by decide +kernel
theorem dX6_allThere_35 : decode cX6_allThere 35 = .ok (.ior, 1) := by decide +kernel
theorem dX6_allThere_36 : decode cX6_allThere 36 = .ok (.istore_n 1, 1) := by decide +kernel
theorem dX6_allThere_37 : decode cX6_allThere 37 = .ok (.iinc 2 1, 3) := by decide +kernel
theorem dX6_allThere_40 : decode cX6_allThere 40 = .ok (.goto (-36), 3) := by decide +kernel
theorem dX6_allThere_43 : decode cX6_allThere 43 = .ok (.iload_n 1, 1) := by decide +kernel
theorem dX6_allThere_44 : decode cX6_allThere 44 = .ok (.ireturn, 1) := by decide +kernel
theorem dX6_worthOf_0 : decode cX6_worthOf 0 = .ok (.iconst 0, 1) := by decide +kernel
theorem dX6_worthOf_1 : decode cX6_worthOf 1 = .ok (.istore_n 2, 1) := by decide +kernel
theorem dX6_worthOf_2 : decode cX6_worthOf 2 = .ok (.iconst 0, 1) := by decide +kernel
theorem dX6_worthOf_3 : decode cX6_worthOf 3 = .ok (.istore_n 3, 1) := by decide +kernel
theorem dX6_worthOf_4 : decode cX6_worthOf 4 = .ok (.iload_n 3, 1) := by decide +kernel
theorem dX6_worthOf_5 : decode cX6_worthOf 5 = .ok (.aload_n 0, 1) := by decide +kernel
theorem dX6_worthOf_6 : decode cX6_worthOf 6 = .ok (.getfield 21, 3) := by decide +kernel
theorem dX6_worthOf_9 : decode cX6_worthOf 9 = .ok (.getfield 111, 3) := by decide +kernel
theorem dX6_worthOf_12 : decode cX6_worthOf 12 = .ok (.if_icmp .ge 24, 3) := by decide +kernel
theorem dX6_worthOf_15 : decode cX6_worthOf 15 = .ok (.iload_n 2, 1) := by decide +kernel
theorem dX6_worthOf_16 : decode cX6_worthOf 16 = .ok (.iload_n 1, 1) := by decide +kernel
theorem dX6_worthOf_17 : decode cX6_worthOf 17 = .ok (.iload_n 3, 1) := by decide +kernel
theorem dX6_worthOf_18 : decode cX6_worthOf 18 = .ok (.ishr, 1) := by decide +kernel
theorem dX6_worthOf_19 : decode cX6_worthOf 19 = .ok (.iconst 1, 1) := by decide +kernel
theorem dX6_worthOf_20 : decode cX6_worthOf 20 = .ok (.iand, 1) := by decide +kernel
theorem dX6_worthOf_21 : decode cX6_worthOf 21 = .ok (.aload_n 0, 1) := by decide +kernel
theorem dX6_worthOf_22 : decode cX6_worthOf 22 = .ok (.getfield 48, 3) := by decide +kernel
theorem dX6_worthOf_25 : decode cX6_worthOf 25 = .ok (.iload_n 3, 1) := by decide +kernel
theorem dX6_worthOf_26 : decode cX6_worthOf 26 = .ok (.iaload, 1) := by decide +kernel
theorem dX6_worthOf_27 : decode cX6_worthOf 27 = .ok (.imul, 1) := by decide +kernel
theorem dX6_worthOf_28 : decode cX6_worthOf 28 = .ok (.iadd, 1) := by decide +kernel
theorem dX6_worthOf_29 : decode cX6_worthOf 29 = .ok (.istore_n 2, 1) := by decide +kernel
theorem dX6_worthOf_30 : decode cX6_worthOf 30 = .ok (.iinc 3 1, 3) := by decide +kernel
theorem dX6_worthOf_33 : decode cX6_worthOf 33 = .ok (.goto (-29), 3) := by decide +kernel
theorem dX6_worthOf_36 : decode cX6_worthOf 36 = .ok (.iload_n 2, 1) := by decide +kernel
theorem dX6_worthOf_37 : decode cX6_worthOf 37 = .ok (.ireturn, 1) := by decide +kernel
theorem dX6_byLaw_0 : decode cX6_byLaw 0 = .ok (.iload_n 3, 1) := by decide +kernel
theorem dX6_byLaw_1 : decode cX6_byLaw 1 = .ok (.ifCond .lt 26, 3) := by decide +kernel
theorem dX6_byLaw_4 : decode cX6_byLaw 4 = .ok (.iload_n 3, 1) := by decide +kernel
theorem dX6_byLaw_5 : decode cX6_byLaw 5 = .ok (.aload_n 0, 1) := by decide +kernel
theorem dX6_byLaw_6 : decode cX6_byLaw 6 = .ok (.getfield 89, 3) := by decide +kernel
theorem dX6_byLaw_9 : decode cX6_byLaw 9 = .ok (.if_icmp .ge 18, 3) := by decide +kernel
theorem dX6_byLaw_12 : decode cX6_byLaw 12 = .ok (.aload_n 0, 1) := by decide +kernel
theorem dX6_byLaw_13 : decode cX6_byLaw 13 = .ok (.getfield 81, 3) := by decide +kernel
theorem dX6_byLaw_16 : decode cX6_byLaw 16 = .ok (.iload_n 3, 1) := by decide +kernel
theorem dX6_byLaw_17 : decode cX6_byLaw 17 = .ok (.aaload, 1) := by decide +kernel
theorem dX6_byLaw_18 : decode cX6_byLaw 18 = .ok (.getfield 198, 3) := by decide +kernel
theorem dX6_byLaw_21 : decode cX6_byLaw 21 = .ok (.iload_n 1, 1) := by decide +kernel
theorem dX6_byLaw_22 : decode cX6_byLaw 22 = .ok (.iaload, 1) := by decide +kernel
theorem dX6_byLaw_23 : decode cX6_byLaw 23 = .ok (.iconst (-1), 1) := by decide +kernel
theorem dX6_byLaw_24 : decode cX6_byLaw 24 = .ok (.if_icmp .ne 10, 3) := by decide +kernel
theorem dX6_byLaw_27 : decode cX6_byLaw 27 = .ok (.aload_n 0, 1) := by decide +kernel
theorem dX6_byLaw_28 : decode cX6_byLaw 28 = .ok (.iload_n 1, 1) := by decide +kernel
theorem dX6_byLaw_29 : decode cX6_byLaw 29 = .ok (.iload_n 2, 1) := by decide +kernel
theorem dX6_byLaw_30 : decode cX6_byLaw 30 = .ok (.invokevirtual 203, 3) := by decide +kernel
theorem dX6_byLaw_33 : decode cX6_byLaw 33 = .ok (.ireturn, 1) := by decide +kernel
theorem dX6_byLaw_34 : decode cX6_byLaw 34 = .ok (.aload_n 0, 1) := by decide +kernel
theorem dX6_byLaw_35 : decode cX6_byLaw 35 = .ok (.getfield 85, 3) := by decide +kernel
theorem dX6_byLaw_38 : decode cX6_byLaw 38 = .ok (.aload_n 0, 1) := by decide +kernel
theorem dX6_byLaw_39 : decode cX6_byLaw 39 = .ok (.getfield 81, 3) := by decide +kernel
theorem dX6_byLaw_42 : decode cX6_byLaw 42 = .ok (.iload_n 3, 1) := by decide +kernel
theorem dX6_byLaw_43 : decode cX6_byLaw 43 = .ok (.aaload, 1) := by decide +kernel
theorem dX6_byLaw_44 : decode cX6_byLaw 44 = .ok (.iload_n 1, 1) := by decide +kernel
theorem dX6_byLaw_45 : decode cX6_byLaw 45 = .ok (.aload_n 0, 1) := by decide +kernel
theorem dX6_byLaw_46 : decode cX6_byLaw 46 = .ok (.iload_n 2, 1) := by decide +kernel
theorem dX6_byLaw_47 : decode cX6_byLaw 47 = .ok (.invokevirtual 206, 3) := by decide +kernel
theorem dX6_byLaw_50 : decode cX6_byLaw 50 = .ok (.istore 4, 2) := by decide +kernel
theorem dX6_byLaw_52 : decode cX6_byLaw 52 = .ok (.iload_n 1, 1) := by decide +kernel
theorem dX6_byLaw_53 : decode cX6_byLaw 53 = .ok (.ifCond .ne 8, 3) := by decide +kernel
theorem dX6_byLaw_56 : decode cX6_byLaw 56 = .ok (.bipush 9, 2) := by decide +kernel
theorem dX6_byLaw_58 : decode cX6_byLaw 58 = .ok (.goto 16, 3) := by decide +kernel
theorem dX6_byLaw_61 : decode cX6_byLaw 61 = .ok (.iload_n 1, 1) := by decide +kernel
theorem dX6_byLaw_62 : decode cX6_byLaw 62 = .ok (.iconst 1, 1) := by decide +kernel
theorem dX6_byLaw_63 : decode cX6_byLaw 63 = .ok (.if_icmp .ne 8, 3) := by decide +kernel
theorem dX6_byLaw_66 : decode cX6_byLaw 66 = .ok (.bipush 10, 2) := by decide +kernel
theorem dX6_byLaw_68 : decode cX6_byLaw 68 = .ok (.goto 6, 3) := by decide +kernel
theorem dX6_byLaw_71 : decode cX6_byLaw 71 = .ok (.sipush 9999, 3) := by decide +kernel
theorem dX6_byLaw_74 : decode cX6_byLaw 74 = .ok (.istore 5, 2) := by decide +kernel
theorem dX6_byLaw_76 : decode cX6_byLaw 76 = .ok (.iconst 0, 1) := by decide +kernel
theorem dX6_byLaw_77 : decode cX6_byLaw 77 = .ok (.iload 5, 2) := by decide +kernel
theorem dX6_byLaw_79 : decode cX6_byLaw 79 = .ok (.iload 4, 2) := by decide +kernel
theorem dX6_byLaw_81 : decode cX6_byLaw 81 = .ok (.invokestatic 212, 3) := by decide +kernel
theorem dX6_byLaw_84 : decode cX6_byLaw 84 = .ok (.invokestatic 146, 3) := by decide +kernel
theorem dX6_byLaw_87 : decode cX6_byLaw 87 = .ok (.ireturn, 1) := by decide +kernel
theorem dX6_withoutLaw_0 : decode cX6_withoutLaw 0 = .ok (.iload_n 1, 1) := by decide +kernel
theorem dX6_withoutLaw_1 : decode cX6_withoutLaw 1 = .ok (.ifCond .ne 29, 3) := by decide +kernel
theorem dX6_withoutLaw_4 : decode cX6_withoutLaw 4 = .ok (.aload_n 0, 1) := by decide +kernel
theorem dX6_withoutLaw_5 : decode cX6_withoutLaw 5 = .ok (.getfield 32, 3) := by decide +kernel
theorem dX6_withoutLaw_8 : decode cX6_withoutLaw 8 = .ok (.aload_n 0, 1) := by decide +kernel
theorem dX6_withoutLaw_9 : decode cX6_withoutLaw 9 = .ok (.getfield 39, 3) := by decide +kernel
theorem dX6_withoutLaw_12 : decode cX6_withoutLaw 12 = .ok (.iload_n 2, 1) := by decide +kernel
theorem dX6_withoutLaw_13 : decode cX6_withoutLaw 13 = .ok (.iaload, 1) := by decide +kernel
theorem dX6_withoutLaw_14 : decode cX6_withoutLaw 14 = .ok (.iaload, 1) := by decide +kernel
theorem dX6_withoutLaw_15 : decode cX6_withoutLaw 15 = .ok (.iconst 2, 1) := by decide +kernel
theorem dX6_withoutLaw_16 : decode cX6_withoutLaw 16 = .ok (.if_icmp .ne 7, 3) := by decide +kernel
theorem dX6_withoutLaw_19 : decode cX6_withoutLaw 19 = .ok (.iconst 1, 1) := by decide +kernel
theorem dX6_withoutLaw_20 : decode cX6_withoutLaw 20 = .ok (.goto 9, 3) := by decide +kernel
theorem dX6_withoutLaw_23 : decode cX6_withoutLaw 23 = .ok (.aload_n 0, 1) := by decide +kernel
theorem dX6_withoutLaw_24 : decode cX6_withoutLaw 24 = .ok (.getfield 9, 3) := by decide +kernel
theorem dX6_withoutLaw_27 : decode cX6_withoutLaw 27 = .ok (.iconst 2, 1) := by decide +kernel
theorem dX6_withoutLaw_28 : decode cX6_withoutLaw 28 = .ok (.idiv, 1) := by decide +kernel
theorem dX6_withoutLaw_29 : decode cX6_withoutLaw 29 = .ok (.ireturn, 1) := by decide +kernel
theorem dX6_withoutLaw_30 : decode cX6_withoutLaw 30 = .ok (.iload_n 1, 1) := by decide +kernel
theorem dX6_withoutLaw_31 : decode cX6_withoutLaw 31 = .ok (.iconst 1, 1) := by decide +kernel
theorem dX6_withoutLaw_32 : decode cX6_withoutLaw 32 = .ok (.if_icmp .ne 17, 3) := by decide +kernel
theorem dX6_withoutLaw_35 : decode cX6_withoutLaw 35 = .ok (.iconst 0, 1) := by decide +kernel
theorem dX6_withoutLaw_36 : decode cX6_withoutLaw 36 = .ok (.aload_n 0, 1) := by decide +kernel
theorem dX6_withoutLaw_37 : decode cX6_withoutLaw 37 = .ok (.getfield 9, 3) := by decide +kernel
theorem dX6_withoutLaw_40 : decode cX6_withoutLaw 40 = .ok (.bipush 6, 2) := by decide +kernel
theorem dX6_withoutLaw_42 : decode cX6_withoutLaw 42 = .ok (.isub, 1) := by decide +kernel
theorem dX6_withoutLaw_43 : decode cX6_withoutLaw 43 = .ok (.invokestatic 146, 3) := by decide +kernel
theorem dX6_withoutLaw_46 : decode cX6_withoutLaw 46 = .ok (.goto 12, 3) := by decide +kernel
theorem dX6_withoutLaw_49 : decode cX6_withoutLaw 49 = .ok (.aload_n 0, 1) := by decide +kernel
theorem dX6_withoutLaw_50 : decode cX6_withoutLaw 50 = .ok (.getfield 21, 3) := by decide +kernel
theorem dX6_withoutLaw_53 : decode cX6_withoutLaw 53 = .ok (.getfield 130, 3) := by decide +kernel
theorem dX6_withoutLaw_56 : decode cX6_withoutLaw 56 = .ok (.iload_n 2, 1) := by decide +kernel
theorem dX6_withoutLaw_57 : decode cX6_withoutLaw 57 = .ok (.iaload, 1) := by decide +kernel
theorem dX6_withoutLaw_58 : decode cX6_withoutLaw 58 = .ok (.ireturn, 1) := by decide +kernel
theorem dX6_isPaidBy_0 : decode cX6_isPaidBy 0 = .ok (.iconst 0, 1) := by decide +kernel
theorem dX6_isPaidBy_1 : decode cX6_isPaidBy 1 = .ok (.istore_n 2, 1) := by decide +kernel
theorem dX6_isPaidBy_2 : decode cX6_isPaidBy 2 = .ok (.iload_n 2, 1) := by decide +kernel
theorem dX6_isPaidBy_3 : decode cX6_isPaidBy 3 = .ok (.aload_n 0, 1) := by decide +kernel
theorem dX6_isPaidBy_4 : decode cX6_isPaidBy 4 = .ok (.getfield 78, 3) := by decide +kernel
theorem dX6_isPaidBy_7 : decode cX6_isPaidBy 7 = .ok (.getfield 215, 3) := by decide +kernel
theorem dX6_isPaidBy_10 : decode cX6_isPaidBy 10 = .ok (.if_icmp .ge 38, 3) := by decide +kernel
theorem dX6_isPaidBy_13 : decode cX6_isPaidBy 13 = .ok (.aload_n 0, 1) := by decide +kernel
theorem dX6_isPaidBy_14 : decode cX6_isPaidBy 14 = .ok (.iconst 2, 1) := by decide +kernel
theorem dX6_isPaidBy_15 : decode cX6_isPaidBy 15 = .ok (.aload_n 0, 1) := by decide +kernel
theorem dX6_isPaidBy_16 : decode cX6_isPaidBy 16 = .ok (.getfield 78, 3) := by decide +kernel
theorem dX6_isPaidBy_19 : decode cX6_isPaidBy 19 = .ok (.getfield 216, 3) := by decide +kernel
theorem dX6_isPaidBy_22 : decode cX6_isPaidBy 22 = .ok (.iload_n 2, 1) := by decide +kernel
theorem dX6_isPaidBy_23 : decode cX6_isPaidBy 23 = .ok (.iaload, 1) := by decide +kernel
theorem dX6_isPaidBy_24 : decode cX6_isPaidBy 24 = .ok (.iload_n 1, 1) := by decide +kernel
theorem dX6_isPaidBy_25 : decode cX6_isPaidBy 25 = .ok (.invokevirtual 142, 3) := by decide +kernel
theorem dX6_isPaidBy_28 : decode cX6_isPaidBy 28 = .ok (.aload_n 0, 1) := by decide +kernel
theorem dX6_isPaidBy_29 : decode cX6_isPaidBy 29 = .ok (.getfield 78, 3) := by decide +kernel
theorem dX6_isPaidBy_32 : decode cX6_isPaidBy 32 = .ok (.getfield 219, 3) := by decide +kernel
theorem dX6_isPaidBy_35 : decode cX6_isPaidBy 35 = .ok (.iload_n 2, 1) := by decide +kernel
theorem dX6_isPaidBy_36 : decode cX6_isPaidBy 36 = .ok (.iaload, 1) := by decide +kernel
theorem dX6_isPaidBy_37 : decode cX6_isPaidBy 37 = .ok (.if_icmp .eq 5, 3) := by decide +kernel
theorem dX6_isPaidBy_40 : decode cX6_isPaidBy 40 = .ok (.iconst 0, 1) := by decide +kernel
theorem dX6_isPaidBy_41 : decode cX6_isPaidBy 41 = .ok (.ireturn, 1) := by decide +kernel
theorem dX6_isPaidBy_42 : decode cX6_isPaidBy 42 = .ok (.iinc 2 1, 3) := by decide +kernel
theorem dX6_isPaidBy_45 : decode cX6_isPaidBy 45 = .ok (.goto (-43), 3) := by decide +kernel
theorem dX6_isPaidBy_48 : decode cX6_isPaidBy 48 = .ok (.iconst 1, 1) := by decide +kernel
theorem dX6_isPaidBy_49 : decode cX6_isPaidBy 49 = .ok (.ireturn, 1) := by decide +kernel
theorem dX7_init_0 : decode cX7_init 0 = .ok (.aload_n 0, 1) := by decide +kernel
theorem dX7_init_1 : decode cX7_init 1 = .ok (.invokespecial 3, 3) := by decide +kernel
theorem dX7_init_4 : decode cX7_init 4 = .ok (.aload_n 0, 1) := by decide +kernel
theorem dX7_init_5 : decode cX7_init 5 = .ok (.bipush 30, 2) := by decide +kernel
theorem dX7_init_7 : decode cX7_init 7 = .ok (.anewarray 9, 3) := by decide +kernel
theorem dX7_init_10 : decode cX7_init 10 = .ok (.putfield 11, 3) := by decide +kernel
theorem dX7_init_13 : decode cX7_init 13 = .ok (.iconst 0, 1) := by decide +kernel
theorem dX7_init_14 : decode cX7_init 14 = .ok (.istore_n 1, 1) := by decide +kernel
theorem dX7_init_15 : decode cX7_init 15 = .ok (.iload_n 1, 1) := by decide +kernel
theorem dX7_init_16 : decode cX7_init 16 = .ok (.aload_n 0, 1) := by decide +kernel
theorem dX7_init_17 : decode cX7_init 17 = .ok (.getfield 11, 3) := by decide +kernel
theorem dX7_init_20 : decode cX7_init 20 = .ok (.arraylength, 1) := by decide +kernel
theorem dX7_init_21 : decode cX7_init 21 = .ok (.if_icmp .ge 22, 3) := by decide +kernel
theorem dX7_init_24 : decode cX7_init 24 = .ok (.aload_n 0, 1) := by decide +kernel
theorem dX7_init_25 : decode cX7_init 25 = .ok (.getfield 11, 3) := by decide +kernel
theorem dX7_init_28 : decode cX7_init 28 = .ok (.iload_n 1, 1) := by decide +kernel
theorem dX7_init_29 : decode cX7_init 29 = .ok (.new 9, 3) := by decide +kernel
theorem dX7_init_32 : decode cX7_init 32 = .ok (.dup, 1) := by decide +kernel
theorem dX7_init_33 : decode cX7_init 33 = .ok (.invokespecial 17, 3) := by decide +kernel
theorem dX7_init_36 : decode cX7_init 36 = .ok (.aastore, 1) := by decide +kernel
theorem dX7_init_37 : decode cX7_init 37 = .ok (.iinc 1 1, 3) := by decide +kernel
theorem dX7_init_40 : decode cX7_init 40 = .ok (.goto (-25), 3) := by decide +kernel
theorem dX7_init_43 : decode cX7_init 43 = .ok (.return_, 1) := by decide +kernel
theorem dX7_keep_0 : decode cX7_keep 0 = .ok (.aload_n 0, 1) := by decide +kernel
theorem dX7_keep_1 : decode cX7_keep 1 = .ok (.getfield 18, 3) := by decide +kernel
theorem dX7_keep_4 : decode cX7_keep 4 = .ok (.bipush 30, 2) := by decide +kernel
theorem dX7_keep_6 : decode cX7_keep 6 = .ok (.if_icmp .ge 16, 3) := by decide +kernel
theorem dX7_keep_9 : decode cX7_keep 9 = .ok (.aload_n 0, 1) := by decide +kernel
theorem dX7_keep_10 : decode cX7_keep 10 = .ok (.dup, 1) := by decide +kernel
theorem dX7_keep_11 : decode cX7_keep 11 = .ok (.getfield 18, 3) := by decide +kernel
theorem dX7_keep_14 : decode cX7_keep 14 = .ok (.iconst 1, 1) := by decide +kernel
theorem dX7_keep_15 : decode cX7_keep 15 = .ok (.iadd, 1) := by decide +kernel
theorem dX7_keep_16 : decode cX7_keep 16 = .ok (.putfield 18, 3) := by decide +kernel
theorem dX7_keep_19 : decode cX7_keep 19 = .ok (.goto 16, 3) := by decide +kernel
theorem dX7_keep_22 : decode cX7_keep 22 = .ok (.aload_n 0, 1) := by decide +kernel
theorem dX7_keep_23 : decode cX7_keep 23 = .ok (.aload_n 0, 1) := by decide +kernel
theorem dX7_keep_24 : decode cX7_keep 24 = .ok (.getfield 22, 3) := by decide +kernel
theorem dX7_keep_27 : decode cX7_keep 27 = .ok (.iconst 1, 1) := by decide +kernel
theorem dX7_keep_28 : decode cX7_keep 28 = .ok (.iadd, 1) := by decide +kernel
theorem dX7_keep_29 : decode cX7_keep 29 = .ok (.bipush 30, 2) := by decide +kernel
theorem dX7_keep_31 : decode cX7_keep 31 = .ok (.irem, 1) := by decide +kernel
theorem dX7_keep_32 : decode cX7_keep 32 = .ok (.putfield 22, 3) := by decide +kernel
theorem dX7_keep_35 : decode cX7_keep 35 = .ok (.aload_n 0, 1) := by decide +kernel
theorem dX7_keep_36 : decode cX7_keep 36 = .ok (.aload_n 0, 1) := by decide +kernel
theorem dX7_keep_37 : decode cX7_keep 37 = .ok (.getfield 18, 3) := by decide +kernel
theorem dX7_keep_40 : decode cX7_keep 40 = .ok (.iconst 1, 1) := by decide +kernel
theorem dX7_keep_41 : decode cX7_keep 41 = .ok (.isub, 1) := by decide +kernel
theorem dX7_keep_42 : decode cX7_keep 42 = .ok (.invokevirtual 25, 3) := by decide +kernel
theorem dX7_keep_45 : decode cX7_keep 45 = .ok (.aload_n 1, 1) := by decide +kernel
theorem dX7_keep_46 : decode cX7_keep 46 = .ok (.invokevirtual 29, 3) := by decide +kernel
theorem dX7_keep_49 : decode cX7_keep 49 = .ok (.return_, 1) := by decide +kernel
theorem dX7_kept_0 : decode cX7_kept 0 = .ok (.aload_n 0, 1) := by decide +kernel
theorem dX7_kept_1 : decode cX7_kept 1 = .ok (.getfield 11, 3) := by decide +kernel
theorem dX7_kept_4 : decode cX7_kept 4 = .ok (.aload_n 0, 1) := by decide +kernel
theorem dX7_kept_5 : decode cX7_kept 5 = .ok (.getfield 22, 3) := by decide +kernel
theorem dX7_kept_8 : decode cX7_kept 8 = .ok (.iload_n 1, 1) := by decide +kernel
theorem dX7_kept_9 : decode cX7_kept 9 = .ok (.iconst 0, 1) := by decide +kernel
theorem dX7_kept_10 : decode cX7_kept 10 = .ok (.invokestatic 33, 3) := by decide +kernel
theorem dX7_kept_13 : decode cX7_kept 13 = .ok (.iadd, 1) := by decide +kernel
theorem dX7_kept_14 : decode cX7_kept 14 = .ok (.bipush 30, 2) := by decide +kernel
theorem dX7_kept_16 : decode cX7_kept 16 = .ok (.irem, 1) := by decide +kernel
theorem dX7_kept_17 : decode cX7_kept 17 = .ok (.aaload, 1) := by decide +kernel
theorem dX7_kept_18 : decode cX7_kept 18 = .ok (.areturn, 1) := by decide +kernel
theorem dX7_copy_0 : decode cX7_copy 0 = .ok (.aload_n 0, 1) := by decide +kernel
theorem dX7_copy_1 : decode cX7_copy 1 = .ok (.iconst 0, 1) := by decide +kernel
theorem dX7_copy_2 : decode cX7_copy 2 = .ok (.putfield 22, 3) := by decide +kernel
theorem dX7_copy_5 : decode cX7_copy 5 = .ok (.aload_n 0, 1) := by decide +kernel
theorem dX7_copy_6 : decode cX7_copy 6 = .ok (.aload_n 1, 1) := by decide +kernel
theorem dX7_copy_7 : decode cX7_copy 7 = .ok (.getfield 18, 3) := by decide +kernel
theorem dX7_copy_10 : decode cX7_copy 10 = .ok (.putfield 18, 3) := by decide +kernel
theorem dX7_copy_13 : decode cX7_copy 13 = .ok (.iconst 0, 1) := by decide +kernel
theorem dX7_copy_14 : decode cX7_copy 14 = .ok (.istore_n 2, 1) := by decide +kernel
theorem dX7_copy_15 : decode cX7_copy 15 = .ok (.iload_n 2, 1) := by decide +kernel
theorem dX7_copy_16 : decode cX7_copy 16 = .ok (.aload_n 0, 1) := by decide +kernel
theorem dX7_copy_17 : decode cX7_copy 17 = .ok (.getfield 18, 3) := by decide +kernel
theorem dX7_copy_20 : decode cX7_copy 20 = .ok (.if_icmp .ge 22, 3) := by decide +kernel
theorem dX7_copy_23 : decode cX7_copy 23 = .ok (.aload_n 0, 1) := by decide +kernel
theorem dX7_copy_24 : decode cX7_copy 24 = .ok (.iload_n 2, 1) := by decide +kernel
theorem dX7_copy_25 : decode cX7_copy 25 = .ok (.invokevirtual 25, 3) := by decide +kernel
theorem dX7_copy_28 : decode cX7_copy 28 = .ok (.aload_n 1, 1) := by decide +kernel
theorem dX7_copy_29 : decode cX7_copy 29 = .ok (.iload_n 2, 1) := by decide +kernel
theorem dX7_copy_30 : decode cX7_copy 30 = .ok (.invokevirtual 25, 3) := by decide +kernel
theorem dX7_copy_33 : decode cX7_copy 33 = .ok (.invokevirtual 29, 3) := by decide +kernel
theorem dX7_copy_36 : decode cX7_copy 36 = .ok (.iinc 2 1, 3) := by decide +kernel
theorem dX7_copy_39 : decode cX7_copy 39 = .ok (.goto (-24), 3) := by decide +kernel
theorem dX7_copy_42 : decode cX7_copy 42 = .ok (.return_, 1) := by decide +kernel
theorem dX8_init_0 : decode cX8_init 0 = .ok (.aload_n 0, 1) := by decide +kernel
theorem dX8_init_1 : decode cX8_init 1 = .ok (.invokespecial 3, 3) := by decide +kernel
theorem dX8_init_4 : decode cX8_init 4 = .ok (.aload_n 0, 1) := by decide +kernel
theorem dX8_init_5 : decode cX8_init 5 = .ok (.iconst 3, 1) := by decide +kernel
theorem dX8_init_6 : decode cX8_init 6 = .ok (.newarray .int, 2) := by decide +kernel
theorem dX8_init_8 : decode cX8_init 8 = .ok (.putfield 9, 3) := by decide +kernel
theorem dX8_init_11 : decode cX8_init 11 = .ok (.aload_n 0, 1) := by decide +kernel
theorem dX8_init_12 : decode cX8_init 12 = .ok (.sipush 300, 3) := by decide +kernel
theorem dX8_init_15 : decode cX8_init 15 = .ok (.newarray .int, 2) := by decide +kernel
theorem dX8_init_17 : decode cX8_init 17 = .ok (.putfield 15, 3) := by decide +kernel
theorem dX8_init_20 : decode cX8_init 20 = .ok (.aload_n 0, 1) := by decide +kernel
theorem dX8_init_21 : decode cX8_init 21 = .ok (.bipush 24, 2) := by decide +kernel
theorem dX8_init_23 : decode cX8_init 23 = .ok (.newarray .int, 2) := by decide +kernel
theorem dX8_init_25 : decode cX8_init 25 = .ok (.putfield 18, 3) := by decide +kernel
theorem dX8_init_28 : decode cX8_init 28 = .ok (.aload_n 0, 1) := by decide +kernel
theorem dX8_init_29 : decode cX8_init 29 = .ok (.iconst 3, 1) := by decide +kernel
theorem dX8_init_30 : decode cX8_init 30 = .ok (.bipush 24, 2) := by decide +kernel
theorem dX8_init_32 : decode cX8_init 32 = .ok (.multianewarray 21 2, 4) := by decide +kernel
theorem dX8_init_36 : decode cX8_init 36 = .ok (.putfield 23, 3) := by decide +kernel
theorem dX8_init_39 : decode cX8_init 39 = .ok (.return_, 1) := by decide +kernel
theorem dX8_empty_0 : decode cX8_empty 0 = .ok (.aload_n 0, 1) := by decide +kernel
theorem dX8_empty_1 : decode cX8_empty 1 = .ok (.iconst 0, 1) := by decide +kernel
theorem dX8_empty_2 : decode cX8_empty 2 = .ok (.putfield 26, 3) := by decide +kernel
theorem dX8_empty_5 : decode cX8_empty 5 = .ok (.aload_n 0, 1) := by decide +kernel
theorem dX8_empty_6 : decode cX8_empty 6 = .ok (.iconst 0, 1) := by decide +kernel
theorem dX8_empty_7 : decode cX8_empty 7 = .ok (.putfield 30, 3) := by decide +kernel
theorem dX8_empty_10 : decode cX8_empty 10 = .ok (.iconst 0, 1) := by decide +kernel
theorem dX8_empty_11 : decode cX8_empty 11 = .ok (.istore_n 1, 1) := by decide +kernel
theorem dX8_empty_12 : decode cX8_empty 12 = .ok (.iload_n 1, 1) := by decide +kernel
theorem dX8_empty_13 : decode cX8_empty 13 = .ok (.iconst 3, 1) := by decide +kernel
theorem dX8_empty_14 : decode cX8_empty 14 = .ok (.if_icmp .ge 16, 3) := by decide +kernel
theorem dX8_empty_17 : decode cX8_empty 17 = .ok (.aload_n 0, 1) := by decide +kernel
theorem dX8_empty_18 : decode cX8_empty 18 = .ok (.getfield 9, 3) := by decide +kernel
theorem dX8_empty_21 : decode cX8_empty 21 = .ok (.iload_n 1, 1) := by decide +kernel
theorem dX8_empty_22 : decode cX8_empty 22 = .ok (.iconst (-1), 1) := by decide +kernel
theorem dX8_empty_23 : decode cX8_empty 23 = .ok (.iastore, 1) := by decide +kernel
theorem dX8_empty_24 : decode cX8_empty 24 = .ok (.iinc 1 1, 3) := by decide +kernel
theorem dX8_empty_27 : decode cX8_empty 27 = .ok (.goto (-15), 3) := by decide +kernel
theorem dX8_empty_30 : decode cX8_empty 30 = .ok (.return_, 1) := by decide +kernel
theorem dX8_begin_0 : decode cX8_begin 0 = .ok (.aload_n 0, 1) := by decide +kernel
theorem dX8_begin_1 : decode cX8_begin 1 = .ok (.getfield 26, 3) := by decide +kernel
theorem dX8_begin_4 : decode cX8_begin 4 = .ok (.bipush 24, 2) := by decide +kernel
theorem dX8_begin_6 : decode cX8_begin 6 = .ok (.if_icmp .ge 23, 3) := by decide +kernel
theorem dX8_begin_9 : decode cX8_begin 9 = .ok (.aload_n 0, 1) := by decide +kernel
theorem dX8_begin_10 : decode cX8_begin 10 = .ok (.getfield 18, 3) := by decide +kernel
theorem dX8_begin_13 : decode cX8_begin 13 = .ok (.aload_n 0, 1) := by decide +kernel
theorem dX8_begin_14 : decode cX8_begin 14 = .ok (.getfield 26, 3) := by decide +kernel
theorem dX8_begin_17 : decode cX8_begin 17 = .ok (.iload_n 1, 1) := by decide +kernel
theorem dX8_begin_18 : decode cX8_begin 18 = .ok (.iastore, 1) := by decide +kernel
theorem dX8_begin_19 : decode cX8_begin 19 = .ok (.aload_n 0, 1) := by decide +kernel
theorem dX8_begin_20 : decode cX8_begin 20 = .ok (.dup, 1) := by decide +kernel
theorem dX8_begin_21 : decode cX8_begin 21 = .ok (.getfield 26, 3) := by decide +kernel
theorem dX8_begin_24 : decode cX8_begin 24 = .ok (.iconst 1, 1) := by decide +kernel
theorem dX8_begin_25 : decode cX8_begin 25 = .ok (.iadd, 1) := by decide +kernel
theorem dX8_begin_26 : decode cX8_begin 26 = .ok (.putfield 26, 3) := by decide +kernel
theorem dX8_begin_29 : decode cX8_begin 29 = .ok (.return_, 1) := by decide +kernel
theorem dX8_kind_0 : decode cX8_kind 0 = .ok (.iload_n 1, 1) := by decide +kernel
theorem dX8_kind_1 : decode cX8_kind 1 = .ok (.ifCond .lt 20, 3) := by decide +kernel
theorem dX8_kind_4 : decode cX8_kind 4 = .ok (.iload_n 1, 1) := by decide +kernel
theorem dX8_kind_5 : decode cX8_kind 5 = .ok (.aload_n 0, 1) := by decide +kernel
theorem dX8_kind_6 : decode cX8_kind 6 = .ok (.getfield 26, 3) := by decide +kernel
theorem dX8_kind_9 : decode cX8_kind 9 = .ok (.if_icmp .ge 12, 3) := by decide +kernel
theorem dX8_kind_12 : decode cX8_kind 12 = .ok (.aload_n 0, 1) := by decide +kernel
theorem dX8_kind_13 : decode cX8_kind 13 = .ok (.getfield 18, 3) := by decide +kernel
theorem dX8_kind_16 : decode cX8_kind 16 = .ok (.iload_n 1, 1) := by decide +kernel
theorem dX8_kind_17 : decode cX8_kind 17 = .ok (.iaload, 1) := by decide +kernel
theorem dX8_kind_18 : decode cX8_kind 18 = .ok (.goto 4, 3) := by decide +kernel
theorem dX8_kind_21 : decode cX8_kind 21 = .ok (.iconst 1, 1) := by decide +kernel
theorem dX8_kind_22 : decode cX8_kind 22 = .ok (.ireturn, 1) := by decide +kernel
theorem dX8_told_0 : decode cX8_told 0 = .ok (.iload_n 1, 1) := by decide +kernel
theorem dX8_told_1 : decode cX8_told 1 = .ok (.ifCond .lt 31, 3) := by decide +kernel
theorem dX8_told_4 : decode cX8_told 4 = .ok (.iload_n 1, 1) := by decide +kernel
theorem dX8_told_5 : decode cX8_told 5 = .ok (.aload_n 0, 1) := by decide +kernel
theorem dX8_told_6 : decode cX8_told 6 = .ok (.getfield 26, 3) := by decide +kernel
theorem dX8_told_9 : decode cX8_told 9 = .ok (.if_icmp .ge 23, 3) := by decide +kernel
theorem dX8_told_12 : decode cX8_told 12 = .ok (.iload_n 2, 1) := by decide +kernel
theorem dX8_told_13 : decode cX8_told 13 = .ok (.ifCond .lt 19, 3) := by decide +kernel
theorem dX8_told_16 : decode cX8_told 16 = .ok (.iload_n 2, 1) := by decide +kernel
theorem dX8_told_17 : decode cX8_told 17 = .ok (.iconst 3, 1) := by decide +kernel
theorem dX8_told_18 : decode cX8_told 18 = .ok (.if_icmp .ge 14, 3) := by decide +kernel
theorem dX8_told_21 : decode cX8_told 21 = .ok (.aload_n 0, 1) := by decide +kernel
theorem dX8_told_22 : decode cX8_told 22 = .ok (.getfield 23, 3) := by decide +kernel
theorem dX8_told_25 : decode cX8_told 25 = .ok (.iload_n 2, 1) := by decide +kernel
theorem dX8_told_26 : decode cX8_told 26 = .ok (.aaload, 1) := by decide +kernel
theorem dX8_told_27 : decode cX8_told 27 = .ok (.iload_n 1, 1) := by decide +kernel
theorem dX8_told_28 : decode cX8_told 28 = .ok (.iaload, 1) := by decide +kernel
theorem dX8_told_29 : decode cX8_told 29 = .ok (.goto 4, 3) := by decide +kernel
theorem dX8_told_32 : decode cX8_told 32 = .ok (.iconst 0, 1) := by decide +kernel
theorem dX8_told_33 : decode cX8_told 33 = .ok (.ireturn, 1) := by decide +kernel
theorem dX8_tell_0 : decode cX8_tell 0 = .ok (.aload_n 0, 1) := by decide +kernel
theorem dX8_tell_1 : decode cX8_tell 1 = .ok (.getfield 26, 3) := by decide +kernel
theorem dX8_tell_4 : decode cX8_tell 4 = .ok (.ifCond .le 26, 3) := by decide +kernel
theorem dX8_tell_7 : decode cX8_tell 7 = .ok (.iload_n 1, 1) := by decide +kernel
theorem dX8_tell_8 : decode cX8_tell 8 = .ok (.ifCond .lt 22, 3) := by decide +kernel
theorem dX8_tell_11 : decode cX8_tell 11 = .ok (.iload_n 1, 1) := by decide +kernel
theorem dX8_tell_12 : decode cX8_tell 12 = .ok (.iconst 3, 1) := by decide +kernel
theorem dX8_tell_13 : decode cX8_tell 13 = .ok (.if_icmp .ge 17, 3) := by decide +kernel
theorem dX8_tell_16 : decode cX8_tell 16 = .ok (.aload_n 0, 1) := by decide +kernel
theorem dX8_tell_17 : decode cX8_tell 17 = .ok (.getfield 23, 3) := by decide +kernel
theorem dX8_tell_20 : decode cX8_tell 20 = .ok (.iload_n 1, 1) := by decide +kernel
theorem dX8_tell_21 : decode cX8_tell 21 = .ok (.aaload, 1) := by decide +kernel
theorem dX8_tell_22 : decode cX8_tell 22 = .ok (.aload_n 0, 1) := by decide +kernel
theorem dX8_tell_23 : decode cX8_tell 23 = .ok (.getfield 26, 3) := by decide +kernel
theorem dX8_tell_26 : decode cX8_tell 26 = .ok (.iconst 1, 1) := by decide +kernel
theorem dX8_tell_27 : decode cX8_tell 27 = .ok (.isub, 1) := by decide +kernel
theorem dX8_tell_28 : decode cX8_tell 28 = .ok (.iload_n 2, 1) := by decide +kernel
theorem dX8_tell_29 : decode cX8_tell 29 = .ok (.iastore, 1) := by decide +kernel
theorem dX8_tell_30 : decode cX8_tell 30 = .ok (.return_, 1) := by decide +kernel
theorem dX8_add_0 : decode cX8_add 0 = .ok (.aload_n 0, 1) := by decide +kernel
theorem dX8_add_1 : decode cX8_add 1 = .ok (.getfield 30, 3) := by decide +kernel
theorem dX8_add_4 : decode cX8_add 4 = .ok (.aload_n 0, 1) := by decide +kernel
theorem dX8_add_5 : decode cX8_add 5 = .ok (.getfield 15, 3) := by decide +kernel
theorem dX8_add_8 : decode cX8_add 8 = .ok (.arraylength, 1) := by decide +kernel
theorem dX8_add_9 : decode cX8_add 9 = .ok (.if_icmp .ge 28, 3) := by decide +kernel
theorem dX8_add_12 : decode cX8_add 12 = .ok (.aload_n 0, 1) := by decide +kernel
theorem dX8_add_13 : decode cX8_add 13 = .ok (.getfield 15, 3) := by decide +kernel
theorem dX8_add_16 : decode cX8_add 16 = .ok (.aload_n 0, 1) := by decide +kernel
theorem dX8_add_17 : decode cX8_add 17 = .ok (.getfield 30, 3) := by decide +kernel
theorem dX8_add_20 : decode cX8_add 20 = .ok (.iload_n 2, 1) := by decide +kernel
theorem dX8_add_21 : decode cX8_add 21 = .ok (.bipush 6, 2) := by decide +kernel
theorem dX8_add_23 : decode cX8_add 23 = .ok (.ishl, 1) := by decide +kernel
theorem dX8_add_24 : decode cX8_add 24 = .ok (.iload_n 1, 1) := by decide +kernel
theorem dX8_add_25 : decode cX8_add 25 = .ok (.ior, 1) := by decide +kernel
theorem dX8_add_26 : decode cX8_add 26 = .ok (.iastore, 1) := by decide +kernel
theorem dX8_add_27 : decode cX8_add 27 = .ok (.aload_n 0, 1) := by decide +kernel
theorem dX8_add_28 : decode cX8_add 28 = .ok (.dup, 1) := by decide +kernel
theorem dX8_add_29 : decode cX8_add 29 = .ok (.getfield 30, 3) := by decide +kernel
theorem dX8_add_32 : decode cX8_add 32 = .ok (.iconst 1, 1) := by decide +kernel
theorem dX8_add_33 : decode cX8_add 33 = .ok (.iadd, 1) := by decide +kernel
theorem dX8_add_34 : decode cX8_add 34 = .ok (.putfield 30, 3) := by decide +kernel
theorem dX8_add_37 : decode cX8_add 37 = .ok (.return_, 1) := by decide +kernel
theorem dX8_aim_0 : decode cX8_aim 0 = .ok (.iload_n 1, 1) := by decide +kernel
theorem dX8_aim_1 : decode cX8_aim 1 = .ok (.ifCond .lt 34, 3) := by decide +kernel
theorem dX8_aim_4 : decode cX8_aim 4 = .ok (.iload_n 1, 1) := by decide +kernel
theorem dX8_aim_5 : decode cX8_aim 5 = .ok (.aload_n 0, 1) := by decide +kernel
theorem dX8_aim_6 : decode cX8_aim 6 = .ok (.getfield 30, 3) := by decide +kernel
theorem dX8_aim_9 : decode cX8_aim 9 = .ok (.if_icmp .ge 26, 3) := by decide +kernel
theorem dX8_aim_12 : decode cX8_aim 12 = .ok (.aload_n 0, 1) := by decide +kernel
theorem dX8_aim_13 : decode cX8_aim 13 = .ok (.getfield 15, 3) := by decide +kernel
theorem dX8_aim_16 : decode cX8_aim 16 = .ok (.iload_n 1, 1) := by decide +kernel
theorem dX8_aim_17 : decode cX8_aim 17 = .ok (.aload_n 0, 1) := by decide +kernel
theorem dX8_aim_18 : decode cX8_aim 18 = .ok (.getfield 30, 3) := by decide +kernel
theorem dX8_aim_21 : decode cX8_aim 21 = .ok (.bipush 6, 2) := by decide +kernel
theorem dX8_aim_23 : decode cX8_aim 23 = .ok (.ishl, 1) := by decide +kernel
theorem dX8_aim_24 : decode cX8_aim 24 = .ok (.aload_n 0, 1) := by decide +kernel
theorem dX8_aim_25 : decode cX8_aim 25 = .ok (.getfield 15, 3) := by decide +kernel
theorem dX8_aim_28 : decode cX8_aim 28 = .ok (.iload_n 1, 1) := by decide +kernel
theorem dX8_aim_29 : decode cX8_aim 29 = .ok (.iaload, 1) := by decide +kernel
theorem dX8_aim_30 : decode cX8_aim 30 = .ok (.bipush 63, 2) := by decide +kernel
theorem dX8_aim_32 : decode cX8_aim 32 = .ok (.iand, 1) := by decide +kernel
theorem dX8_aim_33 : decode cX8_aim 33 = .ok (.ior, 1) := by decide +kernel
theorem dX8_aim_34 : decode cX8_aim 34 = .ok (.iastore, 1) := by decide +kernel
theorem dX8_aim_35 : decode cX8_aim 35 = .ok (.return_, 1) := by decide +kernel
theorem dX9_init_0 : decode cX9_init 0 = .ok (.aload_n 0, 1) := by decide +kernel
theorem dX9_init_1 : decode cX9_init 1 = .ok (.invokespecial 3, 3) := by decide +kernel
theorem dX9_init_4 : decode cX9_init 4 = .ok (.aload_n 0, 1) := by decide +kernel
theorem dX9_init_5 : decode cX9_init 5 = .ok (.iload_n 1, 1) := by decide +kernel
theorem dX9_init_6 : decode cX9_init 6 = .ok (.newarray .int, 2) := by decide +kernel
theorem dX9_init_8 : decode cX9_init 8 = .ok (.putfield 9, 3) := by decide +kernel
theorem dX9_init_11 : decode cX9_init 11 = .ok (.aload_n 0, 1) := by decide +kernel
theorem dX9_init_12 : decode cX9_init 12 = .ok (.iload_n 1, 1) := by decide +kernel
theorem dX9_init_13 : decode cX9_init 13 = .ok (.newarray .int, 2) := by decide +kernel
theorem dX9_init_15 : decode cX9_init 15 = .ok (.putfield 15, 3) := by decide +kernel
theorem dX9_init_18 : decode cX9_init 18 = .ok (.aload_n 0, 1) := by decide +kernel
theorem dX9_init_19 : decode cX9_init 19 = .ok (.iload_n 1, 1) := by decide +kernel
theorem dX9_init_20 : decode cX9_init 20 = .ok (.newarray .int, 2) := by decide +kernel
theorem dX9_init_22 : decode cX9_init 22 = .ok (.putfield 18, 3) := by decide +kernel
theorem dX9_init_25 : decode cX9_init 25 = .ok (.return_, 1) := by decide +kernel
theorem dX9_empty_0 : decode cX9_empty 0 = .ok (.aload_n 0, 1) := by decide +kernel
theorem dX9_empty_1 : decode cX9_empty 1 = .ok (.iconst 0, 1) := by decide +kernel
theorem dX9_empty_2 : decode cX9_empty 2 = .ok (.putfield 21, 3) := by decide +kernel
theorem dX9_empty_5 : decode cX9_empty 5 = .ok (.iconst 0, 1) := by decide +kernel
theorem dX9_empty_6 : decode cX9_empty 6 = .ok (.ireturn, 1) := by decide +kernel
theorem dX9_add_0 : decode cX9_add 0 = .ok (.aload_n 0, 1) := by decide +kernel
theorem dX9_add_1 : decode cX9_add 1 = .ok (.getfield 21, 3) := by decide +kernel
theorem dX9_add_4 : decode cX9_add 4 = .ok (.aload_n 0, 1) := by decide +kernel
theorem dX9_add_5 : decode cX9_add 5 = .ok (.getfield 9, 3) := by decide +kernel
theorem dX9_add_8 : decode cX9_add 8 = .ok (.arraylength, 1) := by decide +kernel
theorem dX9_add_9 : decode cX9_add 9 = .ok (.if_icmp .lt 6, 3) := by decide +kernel
theorem dX9_add_12 : decode cX9_add 12 = .ok (.bipush (-2), 2) := by decide +kernel
theorem dX9_add_14 : decode cX9_add 14 = .ok (.ireturn, 1) := by decide +kernel
theorem dX9_add_15 : decode cX9_add 15 = .ok (.aload_n 0, 1) := by decide +kernel
theorem dX9_add_16 : decode cX9_add 16 = .ok (.getfield 9, 3) := by decide +kernel
theorem dX9_add_19 : decode cX9_add 19 = .ok (.aload_n 0, 1) := by decide +kernel
theorem dX9_add_20 : decode cX9_add 20 = .ok (.getfield 21, 3) := by decide +kernel
theorem dX9_add_23 : decode cX9_add 23 = .ok (.iload_n 1, 1) := by decide +kernel
theorem dX9_add_24 : decode cX9_add 24 = .ok (.iastore, 1) := by decide +kernel
theorem dX9_add_25 : decode cX9_add 25 = .ok (.aload_n 0, 1) := by decide +kernel
theorem dX9_add_26 : decode cX9_add 26 = .ok (.getfield 15, 3) := by decide +kernel
theorem dX9_add_29 : decode cX9_add 29 = .ok (.aload_n 0, 1) := by decide +kernel
theorem dX9_add_30 : decode cX9_add 30 = .ok (.getfield 21, 3) := by decide +kernel
theorem dX9_add_33 : decode cX9_add 33 = .ok (.iload_n 2, 1) := by decide +kernel
theorem dX9_add_34 : decode cX9_add 34 = .ok (.iastore, 1) := by decide +kernel
theorem dX9_add_35 : decode cX9_add 35 = .ok (.aload_n 0, 1) := by decide +kernel
theorem dX9_add_36 : decode cX9_add 36 = .ok (.getfield 18, 3) := by decide +kernel
theorem dX9_add_39 : decode cX9_add 39 = .ok (.aload_n 0, 1) := by decide +kernel
theorem dX9_add_40 : decode cX9_add 40 = .ok (.getfield 21, 3) := by decide +kernel
theorem dX9_add_43 : decode cX9_add 43 = .ok (.iload_n 3, 1) := by decide +kernel
theorem dX9_add_44 : decode cX9_add 44 = .ok (.iastore, 1) := by decide +kernel
theorem dX9_add_45 : decode cX9_add 45 = .ok (.aload_n 0, 1) := by decide +kernel
theorem dX9_add_46 : decode cX9_add 46 = .ok (.dup, 1) := by decide +kernel
theorem dX9_add_47 : decode cX9_add 47 = .ok (.getfield 21, 3) := by decide +kernel
theorem dX9_add_50 : decode cX9_add 50 = .ok (.iconst 1, 1) := by decide +kernel
theorem dX9_add_51 : decode cX9_add 51 = .ok (.iadd, 1) := by decide +kernel
theorem dX9_add_52 : decode cX9_add 52 = .ok (.putfield 21, 3) := by decide +kernel
theorem dX9_add_55 : decode cX9_add 55 = .ok (.aload_n 0, 1) := by decide +kernel
theorem dX9_add_56 : decode cX9_add 56 = .ok (.getfield 21, 3) := by decide +kernel
theorem dX9_add_59 : decode cX9_add 59 = .ok (.ireturn, 1) := by decide +kernel
theorem dX9_copy_0 : decode cX9_copy 0 = .ok (.aload_n 0, 1) := by decide +kernel
theorem dX9_copy_1 : decode cX9_copy 1 = .ok (.aload_n 1, 1) := by decide +kernel
theorem dX9_copy_2 : decode cX9_copy 2 = .ok (.getfield 21, 3) := by decide +kernel
theorem dX9_copy_5 : decode cX9_copy 5 = .ok (.aload_n 0, 1) := by decide +kernel
theorem dX9_copy_6 : decode cX9_copy 6 = .ok (.getfield 9, 3) := by decide +kernel
theorem dX9_copy_9 : decode cX9_copy 9 = .ok (.arraylength, 1) := by decide +kernel
theorem dX9_copy_10 : decode cX9_copy 10 = .ok (.invokestatic 25, 3) := by decide +kernel
theorem dX9_copy_13 : decode cX9_copy 13 = .ok (.putfield 21, 3) := by decide +kernel
theorem dX9_copy_16 : decode cX9_copy 16 = .ok (.aload_n 1, 1) := by decide +kernel
theorem dX9_copy_17 : decode cX9_copy 17 = .ok (.getfield 9, 3) := by decide +kernel
theorem dX9_copy_20 : decode cX9_copy 20 = .ok (.iconst 0, 1) := by decide +kernel
theorem dX9_copy_21 : decode cX9_copy 21 = .ok (.aload_n 0, 1) := by decide +kernel
theorem dX9_copy_22 : decode cX9_copy 22 = .ok (.getfield 9, 3) := by decide +kernel
theorem dX9_copy_25 : decode cX9_copy 25 = .ok (.iconst 0, 1) := by decide +kernel
theorem dX9_copy_26 : decode cX9_copy 26 = .ok (.aload_n 0, 1) := by decide +kernel
theorem dX9_copy_27 : decode cX9_copy 27 = .ok (.getfield 21, 3) := by decide +kernel
theorem dX9_copy_30 : decode cX9_copy 30 = .ok (.invokestatic 31, 3) := by decide +kernel
theorem dX9_copy_33 : decode cX9_copy 33 = .ok (.aload_n 1, 1) := by decide +kernel
theorem dX9_copy_34 : decode cX9_copy 34 = .ok (.getfield 15, 3) := by decide +kernel
theorem dX9_copy_37 : decode cX9_copy 37 = .ok (.iconst 0, 1) := by decide +kernel
theorem dX9_copy_38 : decode cX9_copy 38 = .ok (.aload_n 0, 1) := by decide +kernel
theorem dX9_copy_39 : decode cX9_copy 39 = .ok (.getfield 15, 3) := by decide +kernel
theorem dX9_copy_42 : decode cX9_copy 42 = .ok (.iconst 0, 1) := by decide +kernel
theorem dX9_copy_43 : decode cX9_copy 43 = .ok (.aload_n 0, 1) := by decide +kernel
theorem dX9_copy_44 : decode cX9_copy 44 = .ok (.getfield 21, 3) := by decide +kernel
theorem dX9_copy_47 : decode cX9_copy 47 = .ok (.invokestatic 31, 3) := by decide +kernel
theorem dX9_copy_50 : decode cX9_copy 50 = .ok (.aload_n 1, 1) := by decide +kernel
