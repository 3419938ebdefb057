theorem dX11_pressNow_156 : decode cX11_pressNow 156 = .ok (.aload_n 0, 1) := by decide +kernel
theorem dX11_pressNow_157 : decode cX11_pressNow 157 = .ok (.getfield 7, 3) := by decide +kernel
theorem dX11_pressNow_160 : decode cX11_pressNow 160 = .ok (.iconst 2, 1) := by decide +kernel
theorem dX11_pressNow_161 : decode cX11_pressNow 161 = .ok (.iaload, 1) := by decide +kernel
theorem dX11_pressNow_162 : decode cX11_pressNow 162 = .ok (.iload_n 1, 1) := by decide +kernel
theorem dX11_pressNow_163 : decode cX11_pressNow 163 = .ok (.invokevirtual 333, 3) := by decide +kernel
theorem dX11_pressNow_166 : decode cX11_pressNow 166 = .ok (.isub, 1) := by decide +kernel
theorem dX11_pressNow_167 : decode cX11_pressNow 167 = .ok (.i2l, 1) := by decide +kernel
theorem dX11_pressNow_168 : decode cX11_pressNow 168 = .ok (.iconst 0, 1) := by decide +kernel
theorem dX11_pressNow_169 : decode cX11_pressNow 169 = .ok (.sipush 9999, 3) := by decide +kernel
theorem dX11_pressNow_172 : decode cX11_pressNow 172 = .ok (.invokestatic 292, 3) := by decide +kernel
theorem dX11_pressNow_175 : decode cX11_pressNow 175 = .ok (.iastore, 1) := by decide +kernel
theorem dX11_pressNow_176 : decode cX11_pressNow 176 = .ok (.return_, 1) := by decide +kernel
theorem dX11_canBack_0 : decode cX11_canBack 0 = .ok (.aload_n 0, 1) := by decide +kernel
theorem dX11_canBack_1 : decode cX11_canBack 1 = .ok (.iload_n 1, 1) := by decide +kernel
theorem dX11_canBack_2 : decode cX11_canBack 2 = .ok (.iconst 1, 1) := by decide +kernel
theorem dX11_canBack_3 : decode cX11_canBack 3 = .ok (.invokevirtual 66, 3) := by decide +kernel
theorem dX11_canBack_6 : decode cX11_canBack 6 = .ok (.iconst 1, 1) := by decide +kernel
theorem dX11_canBack_7 : decode cX11_canBack 7 = .ok (.if_icmp .ne 24, 3) := by decide +kernel
theorem dX11_canBack_10 : decode cX11_canBack 10 = .ok (.aload_n 0, 1) := by decide +kernel
theorem dX11_canBack_11 : decode cX11_canBack 11 = .ok (.iload_n 1, 1) := by decide +kernel
theorem dX11_canBack_12 : decode cX11_canBack 12 = .ok (.bipush 6, 2) := by decide +kernel
theorem dX11_canBack_14 : decode cX11_canBack 14 = .ok (.invokevirtual 66, 3) := by decide +kernel
theorem dX11_canBack_17 : decode cX11_canBack 17 = .ok (.aload_n 0, 1) := by decide +kernel
theorem dX11_canBack_18 : decode cX11_canBack 18 = .ok (.invokevirtual 336, 3) := by decide +kernel
theorem dX11_canBack_21 : decode cX11_canBack 21 = .ok (.iconst (-1), 1) := by decide +kernel
theorem dX11_canBack_22 : decode cX11_canBack 22 = .ok (.ixor, 1) := by decide +kernel
theorem dX11_canBack_23 : decode cX11_canBack 23 = .ok (.iand, 1) := by decide +kernel
theorem dX11_canBack_24 : decode cX11_canBack 24 = .ok (.ifCond .ne 7, 3) := by decide +kernel
theorem dX11_canBack_27 : decode cX11_canBack 27 = .ok (.iconst 1, 1) := by decide +kernel
theorem dX11_canBack_28 : decode cX11_canBack 28 = .ok (.goto 4, 3) := by decide +kernel
theorem dX11_canBack_31 : decode cX11_canBack 31 = .ok (.iconst 0, 1) := by decide +kernel
theorem dX11_canBack_32 : decode cX11_canBack 32 = .ok (.ireturn, 1) := by decide +kernel
theorem dX11_dampNow_0 : decode cX11_dampNow 0 = .ok (.iconst 0, 1) := by decide +kernel
theorem dX11_dampNow_1 : decode cX11_dampNow 1 = .ok (.istore_n 2, 1) := by decide +kernel
theorem dX11_dampNow_2 : decode cX11_dampNow 2 = .ok (.iconst 0, 1) := by decide +kernel
theorem dX11_dampNow_3 : decode cX11_dampNow 3 = .ok (.istore_n 3, 1) := by decide +kernel
theorem dX11_dampNow_4 : decode cX11_dampNow 4 = .ok (.iload_n 3, 1) := by decide +kernel
theorem dX11_dampNow_5 : decode cX11_dampNow 5 = .ok (.aload_n 0, 1) := by decide +kernel
theorem dX11_dampNow_6 : decode cX11_dampNow 6 = .ok (.getfield 7, 3) := by decide +kernel
theorem dX11_dampNow_9 : decode cX11_dampNow 9 = .ok (.bipush 14, 2) := by decide +kernel
theorem dX11_dampNow_11 : decode cX11_dampNow 11 = .ok (.iaload, 1) := by decide +kernel
theorem dX11_dampNow_12 : decode cX11_dampNow 12 = .ok (.if_icmp .ge 35, 3) := by decide +kernel
theorem dX11_dampNow_15 : decode cX11_dampNow 15 = .ok (.iload_n 2, 1) := by decide +kernel
theorem dX11_dampNow_16 : decode cX11_dampNow 16 = .ok (.iload_n 1, 1) := by decide +kernel
theorem dX11_dampNow_17 : decode cX11_dampNow 17 = .ok (.if_icmp .ge 30, 3) := by decide +kernel
theorem dX11_dampNow_20 : decode cX11_dampNow 20 = .ok (.aload_n 0, 1) := by decide +kernel
theorem dX11_dampNow_21 : decode cX11_dampNow 21 = .ok (.iload_n 3, 1) := by decide +kernel
theorem dX11_dampNow_22 : decode cX11_dampNow 22 = .ok (.invokevirtual 339, 3) := by decide +kernel
theorem dX11_dampNow_25 : decode cX11_dampNow 25 = .ok (.ifCond .ne 6, 3) := by decide +kernel
theorem dX11_dampNow_28 : decode cX11_dampNow 28 = .ok (.goto 13, 3) := by decide +kernel
theorem dX11_dampNow_31 : decode cX11_dampNow 31 = .ok (.aload_n 0, 1) := by decide +kernel
theorem dX11_dampNow_32 : decode cX11_dampNow 32 = .ok (.iload_n 3, 1) := by decide +kernel
theorem dX11_dampNow_33 : decode cX11_dampNow 33 = .ok (.iconst 0, 1) := by decide +kernel
theorem dX11_dampNow_34 : decode cX11_dampNow 34 = .ok (.iconst 1, 1) := by decide +kernel
theorem dX11_dampNow_35 : decode cX11_dampNow 35 = .ok (.invokevirtual 330, 3) := by decide +kernel
theorem dX11_dampNow_38 : decode cX11_dampNow 38 = .ok (.iinc 2 1, 3) := by decide +kernel
theorem dX11_dampNow_41 : decode cX11_dampNow 41 = .ok (.iinc 3 1, 3) := by decide +kernel
theorem dX11_dampNow_44 : decode cX11_dampNow 44 = .ok (.goto (-40), 3) := by decide +kernel
theorem dX11_dampNow_47 : decode cX11_dampNow 47 = .ok (.iload_n 2, 1) := by decide +kernel
theorem dX11_dampNow_48 : decode cX11_dampNow 48 = .ok (.ireturn, 1) := by decide +kernel
theorem dX11_pass_0 : decode cX11_pass 0 = .ok (.aload_n 0, 1) := by decide +kernel
theorem dX11_pass_1 : decode cX11_pass 1 = .ok (.getfield 7, 3) := by decide +kernel
theorem dX11_pass_4 : decode cX11_pass 4 = .ok (.bipush 10, 2) := by decide +kernel
theorem dX11_pass_6 : decode cX11_pass 6 = .ok (.iaload, 1) := by decide +kernel
theorem dX11_pass_7 : decode cX11_pass 7 = .ok (.bipush 10, 2) := by decide +kernel
theorem dX11_pass_9 : decode cX11_pass 9 = .ok (.irem, 1) := by decide +kernel
theorem dX11_pass_10 : decode cX11_pass 10 = .ok (.bipush 9, 2) := by decide +kernel
theorem dX11_pass_12 : decode cX11_pass 12 = .ok (.if_icmp .ne 59, 3) := by decide +kernel
theorem dX11_pass_15 : decode cX11_pass 15 = .ok (.iconst 0, 1) := by decide +kernel
theorem dX11_pass_16 : decode cX11_pass 16 = .ok (.istore_n 1, 1) := by decide +kernel
theorem dX11_pass_17 : decode cX11_pass 17 = .ok (.iload_n 1, 1) := by decide +kernel
theorem dX11_pass_18 : decode cX11_pass 18 = .ok (.aload_n 0, 1) := by decide +kernel
theorem dX11_pass_19 : decode cX11_pass 19 = .ok (.getfield 7, 3) := by decide +kernel
theorem dX11_pass_22 : decode cX11_pass 22 = .ok (.bipush 14, 2) := by decide +kernel
theorem dX11_pass_24 : decode cX11_pass 24 = .ok (.iaload, 1) := by decide +kernel
theorem dX11_pass_25 : decode cX11_pass 25 = .ok (.if_icmp .ge 46, 3) := by decide +kernel
theorem dX11_pass_28 : decode cX11_pass 28 = .ok (.aload_n 0, 1) := by decide +kernel
theorem dX11_pass_29 : decode cX11_pass 29 = .ok (.iload_n 1, 1) := by decide +kernel
theorem dX11_pass_30 : decode cX11_pass 30 = .ok (.invokevirtual 70, 3) := by decide +kernel
theorem dX11_pass_33 : decode cX11_pass 33 = .ok (.ifCond .eq 32, 3) := by decide +kernel
theorem dX11_pass_36 : decode cX11_pass 36 = .ok (.aload_n 0, 1) := by decide +kernel
theorem dX11_pass_37 : decode cX11_pass 37 = .ok (.iload_n 1, 1) := by decide +kernel
theorem dX11_pass_38 : decode cX11_pass 38 = .ok (.iconst 0, 1) := by decide +kernel
theorem dX11_pass_39 : decode cX11_pass 39 = .ok (.invokevirtual 66, 3) := by decide +kernel
theorem dX11_pass_42 : decode cX11_pass 42 = .ok (.aload_n 0, 1) := by decide +kernel
theorem dX11_pass_43 : decode cX11_pass 43 = .ok (.iload_n 1, 1) := by decide +kernel
theorem dX11_pass_44 : decode cX11_pass 44 = .ok (.iconst 4, 1) := by decide +kernel
theorem dX11_pass_45 : decode cX11_pass 45 = .ok (.invokevirtual 66, 3) := by decide +kernel
theorem dX11_pass_48 : decode cX11_pass 48 = .ok (.if_icmp .ge 17, 3) := by decide +kernel
theorem dX11_pass_51 : decode cX11_pass 51 = .ok (.aload_n 0, 1) := by decide +kernel
theorem dX11_pass_52 : decode cX11_pass 52 = .ok (.iload_n 1, 1) := by decide +kernel
theorem dX11_pass_53 : decode cX11_pass 53 = .ok (.iconst 0, 1) := by decide +kernel
theorem dX11_pass_54 : decode cX11_pass 54 = .ok (.aload_n 0, 1) := by decide +kernel
theorem dX11_pass_55 : decode cX11_pass 55 = .ok (.iload_n 1, 1) := by decide +kernel
theorem dX11_pass_56 : decode cX11_pass 56 = .ok (.iconst 0, 1) := by decide +kernel
theorem dX11_pass_57 : decode cX11_pass 57 = .ok (.invokevirtual 66, 3) := by decide +kernel
theorem dX11_pass_60 : decode cX11_pass 60 = .ok (.iconst 1, 1) := by decide +kernel
theorem dX11_pass_61 : decode cX11_pass 61 = .ok (.iadd, 1) := by decide +kernel
theorem dX11_pass_62 : decode cX11_pass 62 = .ok (.invokevirtual 77, 3) := by decide +kernel
theorem dX11_pass_65 : decode cX11_pass 65 = .ok (.iinc 1 1, 3) := by decide +kernel
theorem dX11_pass_68 : decode cX11_pass 68 = .ok (.goto (-51), 3) := by decide +kernel
theorem dX11_pass_71 : decode cX11_pass 71 = .ok (.aload_n 0, 1) := by decide +kernel
theorem dX11_pass_72 : decode cX11_pass 72 = .ok (.getfield 7, 3) := by decide +kernel
theorem dX11_pass_75 : decode cX11_pass 75 = .ok (.bipush 10, 2) := by decide +kernel
theorem dX11_pass_77 : decode cX11_pass 77 = .ok (.dup2, 1) := by decide +kernel
theorem dX11_pass_78 : decode cX11_pass 78 = .ok (.iaload, 1) := by decide +kernel
theorem dX11_pass_79 : decode cX11_pass 79 = .ok (.iconst 1, 1) := by decide +kernel
theorem dX11_pass_80 : decode cX11_pass 80 = .ok (.iadd, 1) := by decide +kernel
theorem dX11_pass_81 : decode cX11_pass 81 = .ok (.iastore, 1) := by decide +kernel
theorem dX11_pass_82 : decode cX11_pass 82 = .ok (.return_, 1) := by decide +kernel
theorem dX11_keep_0 : decode cX11_keep 0 = .ok (.aload_n 0, 1) := by decide +kernel
theorem dX11_keep_1 : decode cX11_keep 1 = .ok (.getfield 7, 3) := by decide +kernel
theorem dX11_keep_4 : decode cX11_keep 4 = .ok (.iconst 3, 1) := by decide +kernel
theorem dX11_keep_5 : decode cX11_keep 5 = .ok (.iaload, 1) := by decide +kernel
theorem dX11_keep_6 : decode cX11_keep 6 = .ok (.bipush 30, 2) := by decide +kernel
theorem dX11_keep_8 : decode cX11_keep 8 = .ok (.if_icmp .ne 48, 3) := by decide +kernel
theorem dX11_keep_11 : decode cX11_keep 11 = .ok (.iconst 0, 1) := by decide +kernel
theorem dX11_keep_12 : decode cX11_keep 12 = .ok (.istore_n 1, 1) := by decide +kernel
theorem dX11_keep_13 : decode cX11_keep 13 = .ok (.iload_n 1, 1) := by decide +kernel
theorem dX11_keep_14 : decode cX11_keep 14 = .ok (.sipush 1856, 3) := by decide +kernel
theorem dX11_keep_17 : decode cX11_keep 17 = .ok (.if_icmp .ge 29, 3) := by decide +kernel
theorem dX11_keep_20 : decode cX11_keep 20 = .ok (.aload_n 0, 1) := by decide +kernel
theorem dX11_keep_21 : decode cX11_keep 21 = .ok (.getfield 7, 3) := by decide +kernel
theorem dX11_keep_24 : decode cX11_keep 24 = .ok (.sipush 192, 3) := by decide +kernel
theorem dX11_keep_27 : decode cX11_keep 27 = .ok (.iload_n 1, 1) := by decide +kernel
theorem dX11_keep_28 : decode cX11_keep 28 = .ok (.iadd, 1) := by decide +kernel
theorem dX11_keep_29 : decode cX11_keep 29 = .ok (.aload_n 0, 1) := by decide +kernel
theorem dX11_keep_30 : decode cX11_keep 30 = .ok (.getfield 7, 3) := by decide +kernel
theorem dX11_keep_33 : decode cX11_keep 33 = .ok (.sipush 256, 3) := by decide +kernel
theorem dX11_keep_36 : decode cX11_keep 36 = .ok (.iload_n 1, 1) := by decide +kernel
theorem dX11_keep_37 : decode cX11_keep 37 = .ok (.iadd, 1) := by decide +kernel
theorem dX11_keep_38 : decode cX11_keep 38 = .ok (.iaload, 1) := by decide +kernel
theorem dX11_keep_39 : decode cX11_keep 39 = .ok (.iastore, 1) := by decide +kernel
theorem dX11_keep_40 : decode cX11_keep 40 = .ok (.iinc 1 1, 3) := by decide +kernel
theorem dX11_keep_43 : decode cX11_keep 43 = .ok (.goto (-30), 3) := by decide +kernel
theorem dX11_keep_46 : decode cX11_keep 46 = .ok (.aload_n 0, 1) := by decide +kernel
theorem dX11_keep_47 : decode cX11_keep 47 = .ok (.getfield 7, 3) := by decide +kernel
theorem dX11_keep_50 : decode cX11_keep 50 = .ok (.iconst 3, 1) := by decide +kernel
theorem dX11_keep_51 : decode cX11_keep 51 = .ok (.dup2, 1) := by decide +kernel
theorem dX11_keep_52 : decode cX11_keep 52 = .ok (.iaload, 1) := by decide +kernel
theorem dX11_keep_53 : decode cX11_keep 53 = .ok (.iconst 1, 1) := by decide +kernel
theorem dX11_keep_54 : decode cX11_keep 54 = .ok (.isub, 1) := by decide +kernel
theorem dX11_keep_55 : decode cX11_keep 55 = .ok (.iastore, 1) := by decide +kernel
theorem dX11_keep_56 : decode cX11_keep 56 = .ok (.sipush 192, 3) := by decide +kernel
theorem dX11_keep_59 : decode cX11_keep 59 = .ok (.bipush 64, 2) := by decide +kernel
theorem dX11_keep_61 : decode cX11_keep 61 = .ok (.aload_n 0, 1) := by decide +kernel
theorem dX11_keep_62 : decode cX11_keep 62 = .ok (.getfield 7, 3) := by decide +kernel
theorem dX11_keep_65 : decode cX11_keep 65 = .ok (.iconst 3, 1) := by decide +kernel
theorem dX11_keep_66 : decode cX11_keep 66 = .ok (.iaload, 1) := by decide +kernel
theorem dX11_keep_67 : decode cX11_keep 67 = .ok (.imul, 1) := by decide +kernel
theorem dX11_keep_68 : decode cX11_keep 68 = .ok (.iadd, 1) := by decide +kernel
theorem dX11_keep_69 : decode cX11_keep 69 = .ok (.istore_n 1, 1) := by decide +kernel
theorem dX11_keep_70 : decode cX11_keep 70 = .ok (.aload_n 0, 1) := by decide +kernel
theorem dX11_keep_71 : decode cX11_keep 71 = .ok (.getfield 7, 3) := by decide +kernel
theorem dX11_keep_74 : decode cX11_keep 74 = .ok (.iload_n 1, 1) := by decide +kernel
theorem dX11_keep_75 : decode cX11_keep 75 = .ok (.aload_n 0, 1) := by decide +kernel
theorem dX11_keep_76 : decode cX11_keep 76 = .ok (.getfield 7, 3) := by decide +kernel
theorem dX11_keep_79 : decode cX11_keep 79 = .ok (.bipush 14, 2) := by decide +kernel
theorem dX11_keep_81 : decode cX11_keep 81 = .ok (.iaload, 1) := by decide +kernel
theorem dX11_keep_82 : decode cX11_keep 82 = .ok (.iastore, 1) := by decide +kernel
theorem dX11_keep_83 : decode cX11_keep 83 = .ok (.aload_n 0, 1) := by decide +kernel
theorem dX11_keep_84 : decode cX11_keep 84 = .ok (.getfield 7, 3) := by decide +kernel
theorem dX11_keep_87 : decode cX11_keep 87 = .ok (.iload_n 1, 1) := by decide +kernel
theorem dX11_keep_88 : decode cX11_keep 88 = .ok (.iconst 1, 1) := by decide +kernel
theorem dX11_keep_89 : decode cX11_keep 89 = .ok (.iadd, 1) := by decide +kernel
theorem dX11_keep_90 : decode cX11_keep 90 = .ok (.aload_n 0, 1) := by decide +kernel
theorem dX11_keep_91 : decode cX11_keep 91 = .ok (.getfield 7, 3) := by decide +kernel
theorem dX11_keep_94 : decode cX11_keep 94 = .ok (.iconst 0, 1) := by decide +kernel
theorem dX11_keep_95 : decode cX11_keep 95 = .ok (.iaload, 1) := by decide +kernel
theorem dX11_keep_96 : decode cX11_keep 96 = .ok (.iastore, 1) := by decide +kernel
theorem dX11_keep_97 : decode cX11_keep 97 = .ok (.iconst 0, 1) := by decide +kernel
theorem dX11_keep_98 : decode cX11_keep 98 = .ok (.istore_n 2, 1) := by decide +kernel
theorem dX11_keep_99 : decode cX11_keep 99 = .ok (.iload_n 2, 1) := by decide +kernel
theorem dX11_keep_100 : decode cX11_keep 100 = .ok (.iconst 3, 1) := by decide +kernel
theorem dX11_keep_101 : decode cX11_keep 101 = .ok (.if_icmp .ge 28, 3) := by decide +kernel
theorem dX11_keep_104 : decode cX11_keep 104 = .ok (.aload_n 0, 1) := by decide +kernel
theorem dX11_keep_105 : decode cX11_keep 105 = .ok (.getfield 7, 3) := by decide +kernel
theorem dX11_keep_108 : decode cX11_keep 108 = .ok (.iload_n 1, 1) := by decide +kernel
theorem dX11_keep_109 : decode cX11_keep 109 = .ok (.iconst 2, 1) := by decide +kernel
theorem dX11_keep_110 : decode cX11_keep 110 = .ok (.iadd, 1) := by decide +kernel
theorem dX11_keep_111 : decode cX11_keep 111 = .ok (.iload_n 2, 1) := by decide +kernel
theorem dX11_keep_112 : decode cX11_keep 112 = .ok (.iadd, 1) := by decide +kernel
theorem dX11_keep_113 : decode cX11_keep 113 = .ok (.aload_n 0, 1) := by decide +kernel
theorem dX11_keep_114 : decode cX11_keep 114 = .ok (.getfield 7, 3) := by decide +kernel
theorem dX11_keep_117 : decode cX11_keep 117 = .ok (.bipush 10, 2) := by decide +kernel
theorem dX11_keep_119 : decode cX11_keep 119 = .ok (.iload_n 2, 1) := by decide +kernel
theorem dX11_keep_120 : decode cX11_keep 120 = .ok (.iadd, 1) := by decide +kernel
theorem dX11_keep_121 : decode cX11_keep 121 = .ok (.iaload, 1) := by decide +kernel
theorem dX11_keep_122 : decode cX11_keep 122 = .ok (.iastore, 1) := by decide +kernel
theorem dX11_keep_123 : decode cX11_keep 123 = .ok (.iinc 2 1, 3) := by decide +kernel
theorem dX11_keep_126 : decode cX11_keep 126 = .ok (.goto (-27), 3) := by decide +kernel
theorem dX11_keep_129 : decode cX11_keep 129 = .ok (.iconst 0, 1) := by decide +kernel
theorem dX11_keep_130 : decode cX11_keep 130 = .ok (.istore_n 2, 1) := by decide +kernel
theorem dX11_keep_131 : decode cX11_keep 131 = .ok (.iload_n 2, 1) := by decide +kernel
theorem dX11_keep_132 : decode cX11_keep 132 = .ok (.bipush 12, 2) := by decide +kernel
theorem dX11_keep_134 : decode cX11_keep 134 = .ok (.if_icmp .ge 42, 3) := by decide +kernel
theorem dX11_keep_137 : decode cX11_keep 137 = .ok (.iconst 0, 1) := by decide +kernel
theorem dX11_keep_138 : decode cX11_keep 138 = .ok (.istore_n 3, 1) := by decide +kernel
theorem dX11_keep_139 : decode cX11_keep 139 = .ok (.iload_n 3, 1) := by decide +kernel
theorem dX11_keep_140 : decode cX11_keep 140 = .ok (.iconst 2, 1) := by decide +kernel
theorem dX11_keep_141 : decode cX11_keep 141 = .ok (.if_icmp .ge 29, 3) := by decide +kernel
theorem dX11_keep_144 : decode cX11_keep 144 = .ok (.aload_n 0, 1) := by decide +kernel
theorem dX11_keep_145 : decode cX11_keep 145 = .ok (.getfield 7, 3) := by decide +kernel
theorem dX11_keep_148 : decode cX11_keep 148 = .ok (.iload_n 1, 1) := by decide +kernel
theorem dX11_keep_149 : decode cX11_keep 149 = .ok (.iconst 5, 1) := by decide +kernel
theorem dX11_keep_150 : decode cX11_keep 150 = .ok (.iadd, 1) := by decide +kernel
theorem dX11_keep_151 : decode cX11_keep 151 = .ok (.iconst 2, 1) := by decide +kernel
theorem dX11_keep_152 : decode cX11_keep 152 = .ok (.iload_n 2, 1) := by decide +kernel
theorem dX11_keep_153 : decode cX11_keep 153 = .ok (.imul, 1) := by decide +kernel
theorem dX11_keep_154 : decode cX11_keep 154 = .ok (.iadd, 1) := by decide +kernel
theorem dX11_keep_155 : decode cX11_keep 155 = .ok (.iload_n 3, 1) := by decide +kernel
theorem dX11_keep_156 : decode cX11_keep 156 = .ok (.iadd, 1) := by decide +kernel
theorem dX11_keep_157 : decode cX11_keep 157 = .ok (.aload_n 0, 1) := by decide +kernel
theorem dX11_keep_158 : decode cX11_keep 158 = .ok (.iload_n 2, 1) := by decide +kernel
theorem dX11_keep_159 : decode cX11_keep 159 = .ok (.iload_n 3, 1) := by decide +kernel
theorem dX11_keep_160 : decode cX11_keep 160 = .ok (.invokevirtual 66, 3) := by decide +kernel
theorem dX11_keep_163 : decode cX11_keep 163 = .ok (.iastore, 1) := by decide +kernel
theorem dX11_keep_164 : decode cX11_keep 164 = .ok (.iinc 3 1, 3) := by decide +kernel
theorem dX11_keep_167 : decode cX11_keep 167 = .ok (.goto (-28), 3) := by decide +kernel
theorem dX11_keep_170 : decode cX11_keep 170 = .ok (.iinc 2 1, 3) := by decide +kernel
theorem dX11_keep_173 : decode cX11_keep 173 = .ok (.goto (-42), 3) := by decide +kernel
theorem dX11_keep_176 : decode cX11_keep 176 = .ok (.iconst 0, 1) := by decide +kernel
theorem dX11_keep_177 : decode cX11_keep 177 = .ok (.istore_n 2, 1) := by decide +kernel
theorem dX11_keep_178 : decode cX11_keep 178 = .ok (.iload_n 2, 1) := by decide +kernel
theorem dX11_keep_179 : decode cX11_keep 179 = .ok (.iconst 5, 1) := by decide +kernel
theorem dX11_keep_180 : decode cX11_keep 180 = .ok (.if_icmp .ge 26, 3) := by decide +kernel
theorem dX11_keep_183 : decode cX11_keep 183 = .ok (.aload_n 0, 1) := by decide +kernel
theorem dX11_keep_184 : decode cX11_keep 184 = .ok (.getfield 7, 3) := by decide +kernel
theorem dX11_keep_187 : decode cX11_keep 187 = .ok (.iload_n 1, 1) := by decide +kernel
theorem dX11_keep_188 : decode cX11_keep 188 = .ok (.bipush 29, 2) := by decide +kernel
theorem dX11_keep_190 : decode cX11_keep 190 = .ok (.iadd, 1) := by decide +kernel
theorem dX11_keep_191 : decode cX11_keep 191 = .ok (.iload_n 2, 1) := by decide +kernel
theorem dX11_keep_192 : decode cX11_keep 192 = .ok (.iadd, 1) := by decide +kernel
theorem dX11_keep_193 : decode cX11_keep 193 = .ok (.aload_n 0, 1) := by decide +kernel
theorem dX11_keep_194 : decode cX11_keep 194 = .ok (.iload_n 2, 1) := by decide +kernel
theorem dX11_keep_195 : decode cX11_keep 195 = .ok (.iconst 0, 1) := by decide +kernel
theorem dX11_keep_196 : decode cX11_keep 196 = .ok (.invokevirtual 296, 3) := by decide +kernel
theorem dX11_keep_199 : decode cX11_keep 199 = .ok (.iastore, 1) := by decide +kernel
theorem dX11_keep_200 : decode cX11_keep 200 = .ok (.iinc 2 1, 3) := by decide +kernel
theorem dX11_keep_203 : decode cX11_keep 203 = .ok (.goto (-25), 3) := by decide +kernel
theorem dX11_keep_206 : decode cX11_keep 206 = .ok (.iconst 0, 1) := by decide +kernel
theorem dX11_keep_207 : decode cX11_keep 207 = .ok (.istore_n 2, 1) := by decide +kernel
theorem dX11_keep_208 : decode cX11_keep 208 = .ok (.iload_n 2, 1) := by decide +kernel
theorem dX11_keep_209 : decode cX11_keep 209 = .ok (.bipush 30, 2) := by decide +kernel
theorem dX11_keep_211 : decode cX11_keep 211 = .ok (.if_icmp .ge 30, 3) := by decide +kernel
theorem dX11_keep_214 : decode cX11_keep 214 = .ok (.aload_n 0, 1) := by decide +kernel
theorem dX11_keep_215 : decode cX11_keep 215 = .ok (.getfield 7, 3) := by decide +kernel
theorem dX11_keep_218 : decode cX11_keep 218 = .ok (.iload_n 1, 1) := by decide +kernel
theorem dX11_keep_219 : decode cX11_keep 219 = .ok (.bipush 34, 2) := by decide +kernel
theorem dX11_keep_221 : decode cX11_keep 221 = .ok (.iadd, 1) := by decide +kernel
theorem dX11_keep_222 : decode cX11_keep 222 = .ok (.iload_n 2, 1) := by decide +kernel
theorem dX11_keep_223 : decode cX11_keep 223 = .ok (.iadd, 1) := by decide +kernel
theorem dX11_keep_224 : decode cX11_keep 224 = .ok (.aload_n 0, 1) := by decide +kernel
theorem dX11_keep_225 : decode cX11_keep 225 = .ok (.getfield 7, 3) := by decide +kernel
theorem dX11_keep_228 : decode cX11_keep 228 = .ok (.sipush 2112, 3) := by decide +kernel
theorem dX11_keep_231 : decode cX11_keep 231 = .ok (.iload_n 2, 1) := by decide +kernel
theorem dX11_keep_232 : decode cX11_keep 232 = .ok (.iadd, 1) := by decide +kernel
theorem dX11_keep_233 : decode cX11_keep 233 = .ok (.iaload, 1) := by decide +kernel
theorem dX11_keep_234 : decode cX11_keep 234 = .ok (.iastore, 1) := by decide +kernel
theorem dX11_keep_235 : decode cX11_keep 235 = .ok (.iinc 2 1, 3) := by decide +kernel
theorem dX11_keep_238 : decode cX11_keep 238 = .ok (.goto (-30), 3) := by decide +kernel
theorem dX11_keep_241 : decode cX11_keep 241 = .ok (.aload_n 0, 1) := by decide +kernel
theorem dX11_keep_242 : decode cX11_keep 242 = .ok (.getfield 7, 3) := by decide +kernel
theorem dX11_keep_245 : decode cX11_keep 245 = .ok (.iconst 3, 1) := by decide +kernel
theorem dX11_keep_246 : decode cX11_keep 246 = .ok (.dup2, 1) := by decide +kernel
theorem dX11_keep_247 : decode cX11_keep 247 = .ok (.iaload, 1) := by decide +kernel
theorem dX11_keep_248 : decode cX11_keep 248 = .ok (.iconst 1, 1) := by decide +kernel
theorem dX11_keep_249 : decode cX11_keep 249 = .ok (.iadd, 1) := by decide +kernel
theorem dX11_keep_250 : decode cX11_keep 250 = .ok (.iastore, 1) := by decide +kernel
theorem dX11_keep_251 : decode cX11_keep 251 = .ok (.return_, 1) := by decide +kernel
theorem dX11_undo_0 : decode cX11_undo 0 = .ok (.aload_n 0, 1) := by decide +kernel
theorem dX11_undo_1 : decode cX11_undo 1 = .ok (.getfield 7, 3) := by decide +kernel
theorem dX11_undo_4 : decode cX11_undo 4 = .ok (.iconst 3, 1) := by decide +kernel
theorem dX11_undo_5 : decode cX11_undo 5 = .ok (.iaload, 1) := by decide +kernel
theorem dX11_undo_6 : decode cX11_undo 6 = .ok (.ifCond .ne 5, 3) := by decide +kernel
theorem dX11_undo_9 : decode cX11_undo 9 = .ok (.iconst (-1), 1) := by decide +kernel
theorem dX11_undo_10 : decode cX11_undo 10 = .ok (.ireturn, 1) := by decide +kernel
theorem dX11_undo_11 : decode cX11_undo 11 = .ok (.aload_n 0, 1) := by decide +kernel
theorem dX11_undo_12 : decode cX11_undo 12 = .ok (.getfield 7, 3) := by decide +kernel
theorem dX11_undo_15 : decode cX11_undo 15 = .ok (.iconst 3, 1) := by decide +kernel
theorem dX11_undo_16 : decode cX11_undo 16 = .ok (.dup2, 1) := by decide +kernel
theorem dX11_undo_17 : decode cX11_undo 17 = .ok (.iaload, 1) := by decide +kernel
theorem dX11_undo_18 : decode cX11_undo 18 = .ok (.iconst 1, 1) := by decide +kernel
theorem dX11_undo_19 : decode cX11_undo 19 = .ok (.isub, 1) := by decide +kernel
theorem dX11_undo_20 : decode cX11_undo 20 = .ok (.iastore, 1) := by decide +kernel
theorem dX11_undo_21 : decode cX11_undo 21 = .ok (.sipush 192, 3) := by decide +kernel
theorem dX11_undo_24 : decode cX11_undo 24 = .ok (.bipush 64, 2) := by decide +kernel
theorem dX11_undo_26 : decode cX11_undo 26 = .ok (.aload_n 0, 1) := by decide +kernel
theorem dX11_undo_27 : decode cX11_undo 27 = .ok (.getfield 7, 3) := by decide +kernel
theorem dX11_undo_30 : decode cX11_undo 30 = .ok (.iconst 3, 1) := by decide +kernel
theorem dX11_undo_31 : decode cX11_undo 31 = .ok (.iaload, 1) := by decide +kernel
theorem dX11_undo_32 : decode cX11_undo 32 = .ok (.imul, 1) := by decide +kernel
theorem dX11_undo_33 : decode cX11_undo 33 = .ok (.iadd, 1) := by decide +kernel
theorem dX11_undo_34 : decode cX11_undo 34 = .ok (.istore_n 1, 1) := by decide +kernel
theorem dX11_undo_35 : decode cX11_undo 35 = .ok (.iconst 0, 1) := by decide +kernel
theorem dX11_undo_36 : decode cX11_undo 36 = .ok (.istore_n 2, 1) := by decide +kernel
theorem dX11_undo_37 : decode cX11_undo 37 = .ok (.iload_n 2, 1) := by decide +kernel
theorem dX11_undo_38 : decode cX11_undo 38 = .ok (.iconst 3, 1) := by decide +kernel
theorem dX11_undo_39 : decode cX11_undo 39 = .ok (.if_icmp .ge 28, 3) := by decide +kernel
theorem dX11_undo_42 : decode cX11_undo 42 = .ok (.aload_n 0, 1) := by decide +kernel
theorem dX11_undo_43 : decode cX11_undo 43 = .ok (.getfield 7, 3) := by decide +kernel
theorem dX11_undo_46 : decode cX11_undo 46 = .ok (.bipush 10, 2) := by decide +kernel
theorem dX11_undo_48 : decode cX11_undo 48 = .ok (.iload_n 2, 1) := by decide +kernel
theorem dX11_undo_49 : decode cX11_undo 49 = .ok (.iadd, 1) := by decide +kernel
theorem dX11_undo_50 : decode cX11_undo 50 = .ok (.aload_n 0, 1) := by decide +kernel
theorem dX11_undo_51 : decode cX11_undo 51 = .ok (.getfield 7, 3) := by decide +kernel
theorem dX11_undo_54 : decode cX11_undo 54 = .ok (.iload_n 1, 1) := by decide +kernel
theorem dX11_undo_55 : decode cX11_undo 55 = .ok (.iconst 2, 1) := by decide +kernel
theorem dX11_undo_56 : decode cX11_undo 56 = .ok (.iadd, 1) := by decide +kernel
theorem dX11_undo_57 : decode cX11_undo 57 = .ok (.iload_n 2, 1) := by decide +kernel
theorem dX11_undo_58 : decode cX11_undo 58 = .ok (.iadd, 1) := by decide +kernel
theorem dX11_undo_59 : decode cX11_undo 59 = .ok (.iaload, 1) := by decide +kernel
theorem dX11_undo_60 : decode cX11_undo 60 = .ok (.iastore, 1) := by decide +kernel
theorem dX11_undo_61 : decode cX11_undo 61 = .ok (.iinc 2 1, 3) := by decide +kernel
theorem dX11_undo_64 : decode cX11_undo 64 = .ok (.goto (-27), 3) := by decide +kernel
theorem dX11_undo_67 : decode cX11_undo 67 = .ok (.iconst 0, 1) := by decide +kernel
theorem dX11_undo_68 : decode cX11_undo 68 = .ok (.istore_n 2, 1) := by decide +kernel
theorem dX11_undo_69 : decode cX11_undo 69 = .ok (.iload_n 2, 1) := by decide +kernel
theorem dX11_undo_70 : decode cX11_undo 70 = .ok (.aload_n 0, 1) := by decide +kernel
theorem dX11_undo_71 : decode cX11_undo 71 = .ok (.getfield 7, 3) := by decide +kernel
theorem dX11_undo_74 : decode cX11_undo 74 = .ok (.bipush 14, 2) := by decide +kernel
theorem dX11_undo_76 : decode cX11_undo 76 = .ok (.iaload, 1) := by decide +kernel
theorem dX11_undo_77 : decode cX11_undo 77 = .ok (.if_icmp .ge 79, 3) := by decide +kernel
theorem dX11_undo_80 : decode cX11_undo 80 = .ok (.aload_n 0, 1) := by decide +kernel
theorem dX11_undo_81 : decode cX11_undo 81 = .ok (.iload_n 2, 1) := by decide +kernel
theorem dX11_undo_82 : decode cX11_undo 82 = .ok (.iconst 0, 1) := by decide +kernel
theorem dX11_undo_83 : decode cX11_undo 83 = .ok (.iload_n 2, 1) := by decide +kernel
theorem dX11_undo_84 : decode cX11_undo 84 = .ok (.aload_n 0, 1) := by decide +kernel
theorem dX11_undo_85 : decode cX11_undo 85 = .ok (.getfield 7, 3) := by decide +kernel
theorem dX11_undo_88 : decode cX11_undo 88 = .ok (.iload_n 1, 1) := by decide +kernel
theorem dX11_undo_89 : decode cX11_undo 89 = .ok (.iaload, 1) := by decide +kernel
theorem dX11_undo_90 : decode cX11_undo 90 = .ok (.if_icmp .ge 18, 3) := by decide +kernel
theorem dX11_undo_93 : decode cX11_undo 93 = .ok (.aload_n 0, 1) := by decide +kernel
theorem dX11_undo_94 : decode cX11_undo 94 = .ok (.getfield 7, 3) := by decide +kernel
theorem dX11_undo_97 : decode cX11_undo 97 = .ok (.iload_n 1, 1) := by decide +kernel
theorem dX11_undo_98 : decode cX11_undo 98 = .ok (.iconst 5, 1) := by decide +kernel
theorem dX11_undo_99 : decode cX11_undo 99 = .ok (.iadd, 1) := by decide +kernel
theorem dX11_undo_100 : decode cX11_undo 100 = .ok (.iconst 2, 1) := by decide +kernel
theorem dX11_undo_101 : decode cX11_undo 101 = .ok (.iload_n 2, 1) := by decide +kernel
theorem dX11_undo_102 : decode cX11_undo 102 = .ok (.imul, 1) := by decide +kernel
theorem dX11_undo_103 : decode cX11_undo 103 = .ok (.iadd, 1) := by decide +kernel
theorem dX11_undo_104 : decode cX11_undo 104 = .ok (.iaload, 1) := by decide +kernel
theorem dX11_undo_105 : decode cX11_undo 105 = .ok (.goto 9, 3) := by decide +kernel
theorem dX11_undo_108 : decode cX11_undo 108 = .ok (.aload_n 0, 1) := by decide +kernel
theorem dX11_undo_109 : decode cX11_undo 109 = .ok (.iload_n 2, 1) := by decide +kernel
theorem dX11_undo_110 : decode cX11_undo 110 = .ok (.iconst 4, 1) := by decide +kernel
theorem dX11_undo_111 : decode cX11_undo 111 = .ok (.invokevirtual 66, 3) := by decide +kernel
theorem dX11_undo_114 : decode cX11_undo 114 = .ok (.invokevirtual 77, 3) := by decide +kernel
theorem dX11_undo_117 : decode cX11_undo 117 = .ok (.aload_n 0, 1) := by decide +kernel
theorem dX11_undo_118 : decode cX11_undo 118 = .ok (.iload_n 2, 1) := by decide +kernel
theorem dX11_undo_119 : decode cX11_undo 119 = .ok (.iconst 1, 1) := by decide +kernel
theorem dX11_undo_120 : decode cX11_undo 120 = .ok (.iload_n 2, 1) := by decide +kernel
theorem dX11_undo_121 : decode cX11_undo 121 = .ok (.aload_n 0, 1) := by decide +kernel
theorem dX11_undo_122 : decode cX11_undo 122 = .ok (.getfield 7, 3) := by decide +kernel
theorem dX11_undo_125 : decode cX11_undo 125 = .ok (.iload_n 1, 1) := by decide +kernel
theorem dX11_undo_126 : decode cX11_undo 126 = .ok (.iaload, 1) := by decide +kernel
theorem dX11_undo_127 : decode cX11_undo 127 = .ok (.if_icmp .ge 19, 3) := by decide +kernel
theorem dX11_undo_130 : decode cX11_undo 130 = .ok (.aload_n 0, 1) := by decide +kernel
theorem dX11_undo_131 : decode cX11_undo 131 = .ok (.getfield 7, 3) := by decide +kernel
theorem dX11_undo_134 : decode cX11_undo 134 = .ok (.iload_n 1, 1) := by decide +kernel
theorem dX11_undo_135 : decode cX11_undo 135 = .ok (.bipush 6, 2) := by decide +kernel
theorem dX11_undo_137 : decode cX11_undo 137 = .ok (.iadd, 1) := by decide +kernel
theorem dX11_undo_138 : decode cX11_undo 138 = .ok (.iconst 2, 1) := by decide +kernel
theorem dX11_undo_139 : decode cX11_undo 139 = .ok (.iload_n 2, 1) := by decide +kernel
theorem dX11_undo_140 : decode cX11_undo 140 = .ok (.imul, 1) := by decide +kernel
theorem dX11_undo_141 : decode cX11_undo 141 = .ok (.iadd, 1) := by decide +kernel
theorem dX11_undo_142 : decode cX11_undo 142 = .ok (.iaload, 1) := by decide +kernel
theorem dX11_undo_143 : decode cX11_undo 143 = .ok (.goto 4, 3) := by decide +kernel
theorem dX11_undo_146 : decode cX11_undo 146 = .ok (.iconst 0, 1) := by decide +kernel
theorem dX11_undo_147 : decode cX11_undo 147 = .ok (.invokevirtual 77, 3) := by decide +kernel
theorem dX11_undo_150 : decode cX11_undo 150 = .ok (.iinc 2 1, 3) := by decide +kernel
theorem dX11_undo_153 : decode cX11_undo 153 = .ok (.goto (-84), 3) := by decide +kernel
theorem dX11_undo_156 : decode cX11_undo 156 = .ok (.iconst 0, 1) := by decide +kernel
theorem dX11_undo_157 : decode cX11_undo 157 = .ok (.istore_n 2, 1) := by decide +kernel
theorem dX11_undo_158 : decode cX11_undo 158 = .ok (.iload_n 2, 1) := by decide +kernel
theorem dX11_undo_159 : decode cX11_undo 159 = .ok (.aload_n 0, 1) := by decide +kernel
theorem dX11_undo_160 : decode cX11_undo 160 = .ok (.getfield 7, 3) := by decide +kernel
theorem dX11_undo_163 : decode cX11_undo 163 = .ok (.iconst 0, 1) := by decide +kernel
theorem dX11_undo_164 : decode cX11_undo 164 = .ok (.iaload, 1) := by decide +kernel
theorem dX11_undo_165 : decode cX11_undo 165 = .ok (.if_icmp .ge 52, 3) := by decide +kernel
theorem dX11_undo_168 : decode cX11_undo 168 = .ok (.aload_n 0, 1) := by decide +kernel
theorem dX11_undo_169 : decode cX11_undo 169 = .ok (.getfield 7, 3) := by decide +kernel
theorem dX11_undo_172 : decode cX11_undo 172 = .ok (.bipush 99, 2) := by decide +kernel
theorem dX11_undo_174 : decode cX11_undo 174 = .ok (.iconst 3, 1) := by decide +kernel
theorem dX11_undo_175 : decode cX11_undo 175 = .ok (.iload_n 2, 1) := by decide +kernel
theorem dX11_undo_176 : decode cX11_undo 176 = .ok (.imul, 1) := by decide +kernel
theorem dX11_undo_177 : decode cX11_undo 177 = .ok (.iadd, 1) := by decide +kernel
theorem dX11_undo_178 : decode cX11_undo 178 = .ok (.iload_n 2, 1) := by decide +kernel
theorem dX11_undo_179 : decode cX11_undo 179 = .ok (.aload_n 0, 1) := by decide +kernel
theorem dX11_undo_180 : decode cX11_undo 180 = .ok (.getfield 7, 3) := by decide +kernel
theorem dX11_undo_183 : decode cX11_undo 183 = .ok (.iload_n 1, 1) := by decide +kernel
theorem dX11_undo_184 : decode cX11_undo 184 = .ok (.iconst 1, 1) := by decide +kernel
theorem dX11_undo_185 : decode cX11_undo 185 = .ok (.iadd, 1) := by decide +kernel
theorem dX11_undo_186 : decode cX11_undo 186 = .ok (.iaload, 1) := by decide +kernel
theorem dX11_undo_187 : decode cX11_undo 187 = .ok (.if_icmp .ge 17, 3) := by decide +kernel
theorem dX11_undo_190 : decode cX11_undo 190 = .ok (.aload_n 0, 1) := by decide +kernel
theorem dX11_undo_191 : decode cX11_undo 191 = .ok (.getfield 7, 3) := by decide +kernel
theorem dX11_undo_194 : decode cX11_undo 194 = .ok (.iload_n 1, 1) := by decide +kernel
theorem dX11_undo_195 : decode cX11_undo 195 = .ok (.bipush 29, 2) := by decide +kernel
theorem dX11_undo_197 : decode cX11_undo 197 = .ok (.iadd, 1) := by decide +kernel
theorem dX11_undo_198 : decode cX11_undo 198 = .ok (.iload_n 2, 1) := by decide +kernel
theorem dX11_undo_199 : decode cX11_undo 199 = .ok (.iadd, 1) := by decide +kernel
theorem dX11_undo_200 : decode cX11_undo 200 = .ok (.iaload, 1) := by decide +kernel
theorem dX11_undo_201 : decode cX11_undo 201 = .ok (.goto 9, 3) := by decide +kernel
theorem dX11_undo_204 : decode cX11_undo 204 = .ok (.aload_n 0, 1) := by decide +kernel
theorem dX11_undo_205 : decode cX11_undo 205 = .ok (.iload_n 2, 1) := by decide +kernel
theorem dX11_undo_206 : decode cX11_undo 206 = .ok (.iconst 2, 1) := by decide +kernel
theorem dX11_undo_207 : decode cX11_undo 207 = .ok (.invokevirtual 296, 3) := by decide +kernel
theorem dX11_undo_210 : decode cX11_undo 210 = .ok (.iastore, 1) := by decide +kernel
theorem dX11_undo_211 : decode cX11_undo 211 = .ok (.iinc 2 1, 3) := by decide +kernel
theorem dX11_undo_214 : decode cX11_undo 214 = .ok (.goto (-56), 3) := by decide +kernel
theorem dX11_undo_217 : decode cX11_undo 217 = .ok (.iconst 0, 1) := by decide +kernel
theorem dX11_undo_218 : decode cX11_undo 218 = .ok (.istore_n 2, 1) := by decide +kernel
theorem dX11_undo_219 : decode cX11_undo 219 = .ok (.iload_n 2, 1) := by decide +kernel
theorem dX11_undo_220 : decode cX11_undo 220 = .ok (.bipush 30, 2) := by decide +kernel
theorem dX11_undo_222 : decode cX11_undo 222 = .ok (.if_icmp .ge 30, 3) := by decide +kernel
theorem dX11_undo_225 : decode cX11_undo 225 = .ok (.aload_n 0, 1) := by decide +kernel
theorem dX11_undo_226 : decode cX11_undo 226 = .ok (.getfield 7, 3) := by decide +kernel
theorem dX11_undo_229 : decode cX11_undo 229 = .ok (.sipush 2112, 3) := by decide +kernel
theorem dX11_undo_232 : decode cX11_undo 232 = .ok (.iload_n 2, 1) := by decide +kernel
theorem dX11_undo_233 : decode cX11_undo 233 = .ok (.iadd, 1) := by decide +kernel
theorem dX11_undo_234 : decode cX11_undo 234 = .ok (.aload_n 0, 1) := by decide +kernel
theorem dX11_undo_235 : decode cX11_undo 235 = .ok (.getfield 7, 3) := by decide +kernel
theorem dX11_undo_238 : decode cX11_undo 238 = .ok (.iload_n 1, 1) := by decide +kernel
theorem dX11_undo_239 : decode cX11_undo 239 = .ok (.bipush 34, 2) := by decide +kernel
theorem dX11_undo_241 : decode cX11_undo 241 = .ok (.iadd, 1) := by decide +kernel
theorem dX11_undo_242 : decode cX11_undo 242 = .ok (.iload_n 2, 1) := by decide +kernel
theorem dX11_undo_243 : decode cX11_undo 243 = .ok (.iadd, 1) := by decide +kernel
theorem dX11_undo_244 : decode cX11_undo 244 = .ok (.iaload, 1) := by decide +kernel
theorem dX11_undo_245 : decode cX11_undo 245 = .ok (.iastore, 1) := by decide +kernel
theorem dX11_undo_246 : decode cX11_undo 246 = .ok (.iinc 2 1, 3) := by decide +kernel
theorem dX11_undo_249 : decode cX11_undo 249 = .ok (.goto (-30), 3) := by decide +kernel
theorem dX11_undo_252 : decode cX11_undo 252 = .ok (.aload_n 0, 1) := by decide +kernel
theorem dX11_undo_253 : decode cX11_undo 253 = .ok (.getfield 7, 3) := by decide +kernel
theorem dX11_undo_256 : decode cX11_undo 256 = .ok (.iconst 3, 1) := by decide +kernel
theorem dX11_undo_257 : decode cX11_undo 257 = .ok (.iaload, 1) := by decide +kernel
theorem dX11_undo_258 : decode cX11_undo 258 = .ok (.ireturn, 1) := by decide +kernel
theorem dX11_press_0 : decode cX11_press 0 = .ok (.aload_n 0, 1) := by decide +kernel
theorem dX11_press_1 : decode cX11_press 1 = .ok (.iload_n 1, 1) := by decide +kernel
theorem dX11_press_2 : decode cX11_press 2 = .ok (.invokevirtual 81, 3) := by decide +kernel
theorem dX11_press_5 : decode cX11_press 5 = .ok (.ifCond .eq 11, 3) := by decide +kernel
theorem dX11_press_8 : decode cX11_press 8 = .ok (.aload_n 0, 1) := by decide +kernel
theorem dX11_press_9 : decode cX11_press 9 = .ok (.iload_n 1, 1) := by decide +kernel
theorem dX11_press_10 : decode cX11_press 10 = .ok (.invokevirtual 70, 3) := by decide +kernel
theorem dX11_press_13 : decode cX11_press 13 = .ok (.ifCond .ne 5, 3) := by decide +kernel
theorem dX11_press_16 : decode cX11_press 16 = .ok (.iconst (-1), 1) := by decide +kernel
theorem dX11_press_17 : decode cX11_press 17 = .ok (.ireturn, 1) := by decide +kernel
theorem dX11_press_18 : decode cX11_press 18 = .ok (.aload_n 0, 1) := by decide +kernel
theorem dX11_press_19 : decode cX11_press 19 = .ok (.invokevirtual 342, 3) := by decide +kernel
theorem dX11_press_22 : decode cX11_press 22 = .ok (.aload_n 0, 1) := by decide +kernel
theorem dX11_press_23 : decode cX11_press 23 = .ok (.iload_n 1, 1) := by decide +kernel
theorem dX11_press_24 : decode cX11_press 24 = .ok (.invokevirtual 345, 3) := by decide +kernel
theorem dX11_press_27 : decode cX11_press 27 = .ok (.aload_n 0, 1) := by decide +kernel
theorem dX11_press_28 : decode cX11_press 28 = .ok (.iload_n 1, 1) := by decide +kernel
theorem dX11_press_29 : decode cX11_press 29 = .ok (.iconst 0, 1) := by decide +kernel
theorem dX11_press_30 : decode cX11_press 30 = .ok (.invokevirtual 66, 3) := by decide +kernel
theorem dX11_press_33 : decode cX11_press 33 = .ok (.ireturn, 1) := by decide +kernel
theorem dX11_pattern_0 : decode cX11_pattern 0 = .ok (.aload_n 0, 1) := by decide +kernel
theorem dX11_pattern_1 : decode cX11_pattern 1 = .ok (.iload_n 1, 1) := by decide +kernel
theorem dX11_pattern_2 : decode cX11_pattern 2 = .ok (.invokevirtual 81, 3) := by decide +kernel
theorem dX11_pattern_5 : decode cX11_pattern 5 = .ok (.ifCond .eq 11, 3) := by decide +kernel
theorem dX11_pattern_8 : decode cX11_pattern 8 = .ok (.aload_n 0, 1) := by decide +kernel
theorem dX11_pattern_9 : decode cX11_pattern 9 = .ok (.iload_n 1, 1) := by decide +kernel
theorem dX11_pattern_10 : decode cX11_pattern 10 = .ok (.invokevirtual 339, 3) := by decide +kernel
theorem dX11_pattern_13 : decode cX11_pattern 13 = .ok (.ifCond .ne 5, 3) := by decide +kernel
theorem dX11_pattern_16 : decode cX11_pattern 16 = .ok (.iconst 0, 1) := by decide +kernel
theorem dX11_pattern_17 : decode cX11_pattern 17 = .ok (.ireturn, 1) := by decide +kernel
theorem dX11_pattern_18 : decode cX11_pattern 18 = .ok (.aload_n 0, 1) := by decide +kernel
theorem dX11_pattern_19 : decode cX11_pattern 19 = .ok (.invokevirtual 342, 3) := by decide +kernel
theorem dX11_pattern_22 : decode cX11_pattern 22 = .ok (.aload_n 0, 1) := by decide +kernel
theorem dX11_pattern_23 : decode cX11_pattern 23 = .ok (.iload_n 1, 1) := by decide +kernel
theorem dX11_pattern_24 : decode cX11_pattern 24 = .ok (.iconst 0, 1) := by decide +kernel
theorem dX11_pattern_25 : decode cX11_pattern 25 = .ok (.aload_n 0, 1) := by decide +kernel
theorem dX11_pattern_26 : decode cX11_pattern 26 = .ok (.iload_n 1, 1) := by decide +kernel
theorem dX11_pattern_27 : decode cX11_pattern 27 = .ok (.iconst 4, 1) := by decide +kernel
theorem dX11_pattern_28 : decode cX11_pattern 28 = .ok (.invokevirtual 66, 3) := by decide +kernel
theorem dX11_pattern_31 : decode cX11_pattern 31 = .ok (.invokevirtual 330, 3) := by decide +kernel
theorem dX11_pattern_34 : decode cX11_pattern 34 = .ok (.iconst 1, 1) := by decide +kernel
theorem dX11_pattern_35 : decode cX11_pattern 35 = .ok (.ireturn, 1) := by decide +kernel
theorem dX11_damp_0 : decode cX11_damp 0 = .ok (.iload_n 1, 1) := by decide +kernel
theorem dX11_damp_1 : decode cX11_damp 1 = .ok (.iconst 1, 1) := by decide +kernel
theorem dX11_damp_2 : decode cX11_damp 2 = .ok (.bipush 9, 2) := by decide +kernel
theorem dX11_damp_4 : decode cX11_damp 4 = .ok (.invokestatic 62, 3) := by decide +kernel
theorem dX11_damp_7 : decode cX11_damp 7 = .ok (.ifCond .ne 5, 3) := by decide +kernel
theorem dX11_damp_10 : decode cX11_damp 10 = .ok (.iconst (-1), 1) := by decide +kernel
theorem dX11_damp_11 : decode cX11_damp 11 = .ok (.ireturn, 1) := by decide +kernel
theorem dX11_damp_12 : decode cX11_damp 12 = .ok (.aload_n 0, 1) := by decide +kernel
theorem dX11_damp_13 : decode cX11_damp 13 = .ok (.invokevirtual 342, 3) := by decide +kernel
theorem dX11_damp_16 : decode cX11_damp 16 = .ok (.aload_n 0, 1) := by decide +kernel
theorem dX11_damp_17 : decode cX11_damp 17 = .ok (.iload_n 1, 1) := by decide +kernel
theorem dX11_damp_18 : decode cX11_damp 18 = .ok (.invokevirtual 348, 3) := by decide +kernel
theorem dX11_damp_21 : decode cX11_damp 21 = .ok (.ireturn, 1) := by decide +kernel
theorem dX11_arePassed_0 : decode cX11_arePassed 0 = .ok (.iconst 0, 1) := by decide +kernel
theorem dX11_arePassed_1 : decode cX11_arePassed 1 = .ok (.istore_n 2, 1) := by decide +kernel
theorem dX11_arePassed_2 : decode cX11_arePassed 2 = .ok (.iload_n 2, 1) := by decide +kernel
theorem dX11_arePassed_3 : decode cX11_arePassed 3 = .ok (.iload_n 1, 1) := by decide +kernel
theorem dX11_arePassed_4 : decode cX11_arePassed 4 = .ok (.if_icmp .ge 32, 3) := by decide +kernel
theorem dX11_arePassed_7 : decode cX11_arePassed 7 = .ok (.aload_n 0, 1) := by decide +kernel
theorem dX11_arePassed_8 : decode cX11_arePassed 8 = .ok (.getfield 7, 3) := by decide +kernel
theorem dX11_arePassed_11 : decode cX11_arePassed 11 = .ok (.bipush 10, 2) := by decide +kernel
theorem dX11_arePassed_13 : decode cX11_arePassed 13 = .ok (.iaload, 1) := by decide +kernel
theorem dX11_arePassed_14 : decode cX11_arePassed 14 = .ok (.sipush 9999, 3) := by decide +kernel
theorem dX11_arePassed_17 : decode cX11_arePassed 17 = .ok (.if_icmp .ne 5, 3) := by decide +kernel
theorem dX11_arePassed_20 : decode cX11_arePassed 20 = .ok (.iconst 0, 1) := by decide +kernel
theorem dX11_arePassed_21 : decode cX11_arePassed 21 = .ok (.ireturn, 1) := by decide +kernel
theorem dX11_arePassed_22 : decode cX11_arePassed 22 = .ok (.aload_n 0, 1) := by decide +kernel
theorem dX11_arePassed_23 : decode cX11_arePassed 23 = .ok (.invokevirtual 342, 3) := by decide +kernel
theorem dX11_arePassed_26 : decode cX11_arePassed 26 = .ok (.aload_n 0, 1) := by decide +kernel
theorem dX11_arePassed_27 : decode cX11_arePassed 27 = .ok (.invokevirtual 351, 3) := by decide +kernel
theorem dX11_arePassed_30 : decode cX11_arePassed 30 = .ok (.iinc 2 1, 3) := by decide +kernel
theorem dX11_arePassed_33 : decode cX11_arePassed 33 = .ok (.goto (-31), 3) := by decide +kernel
theorem dX11_arePassed_36 : decode cX11_arePassed 36 = .ok (.iconst 1, 1) := by decide +kernel
theorem dX11_arePassed_37 : decode cX11_arePassed 37 = .ok (.ireturn, 1) := by decide +kernel
theorem dX11_hour_0 : decode cX11_hour 0 = .ok (.iload_n 1, 1) := by decide +kernel
theorem dX11_hour_1 : decode cX11_hour 1 = .ok (.iconst 1, 1) := by decide +kernel
theorem dX11_hour_2 : decode cX11_hour 2 = .ok (.bipush 60, 2) := by decide +kernel
theorem dX11_hour_4 : decode cX11_hour 4 = .ok (.invokestatic 62, 3) := by decide +kernel
theorem dX11_hour_7 : decode cX11_hour 7 = .ok (.ifCond .eq 36, 3) := by decide +kernel
theorem dX11_hour_10 : decode cX11_hour 10 = .ok (.aload_n 0, 1) := by decide +kernel
theorem dX11_hour_11 : decode cX11_hour 11 = .ok (.getfield 7, 3) := by decide +kernel
theorem dX11_hour_14 : decode cX11_hour 14 = .ok (.bipush 10, 2) := by decide +kernel
theorem dX11_hour_16 : decode cX11_hour 16 = .ok (.iaload, 1) := by decide +kernel
theorem dX11_hour_17 : decode cX11_hour 17 = .ok (.iload_n 1, 1) := by decide +kernel
theorem dX11_hour_18 : decode cX11_hour 18 = .ok (.iadd, 1) := by decide +kernel
theorem dX11_hour_19 : decode cX11_hour 19 = .ok (.sipush 9999, 3) := by decide +kernel
theorem dX11_hour_22 : decode cX11_hour 22 = .ok (.if_icmp .gt 21, 3) := by decide +kernel
theorem dX11_hour_25 : decode cX11_hour 25 = .ok (.aload_n 0, 1) := by decide +kernel
theorem dX11_hour_26 : decode cX11_hour 26 = .ok (.iload_n 1, 1) := by decide +kernel
theorem dX11_hour_27 : decode cX11_hour 27 = .ok (.invokevirtual 354, 3) := by decide +kernel
theorem dX11_hour_30 : decode cX11_hour 30 = .ok (.ifCond .eq 13, 3) := by decide +kernel
theorem dX11_hour_33 : decode cX11_hour 33 = .ok (.aload_n 0, 1) := by decide +kernel
theorem dX11_hour_34 : decode cX11_hour 34 = .ok (.getfield 7, 3) := by decide +kernel
theorem dX11_hour_37 : decode cX11_hour 37 = .ok (.bipush 10, 2) := by decide +kernel
theorem dX11_hour_39 : decode cX11_hour 39 = .ok (.iaload, 1) := by decide +kernel
theorem dX11_hour_40 : decode cX11_hour 40 = .ok (.goto 4, 3) := by decide +kernel
theorem dX11_hour_43 : decode cX11_hour 43 = .ok (.iconst (-1), 1) := by decide +kernel
theorem dX11_hour_44 : decode cX11_hour 44 = .ok (.ireturn, 1) := by decide +kernel
theorem dX11_isPlayed_0 : decode cX11_isPlayed 0 = .ok (.aload_n 0, 1) := by decide +kernel
theorem dX11_isPlayed_1 : decode cX11_isPlayed 1 = .ok (.getfield 16, 3) := by decide +kernel
theorem dX11_isPlayed_4 : decode cX11_isPlayed 4 = .ok (.iload_n 1, 1) := by decide +kernel
theorem dX11_isPlayed_5 : decode cX11_isPlayed 5 = .ok (.iconst 1, 1) := by decide +kernel
theorem dX11_isPlayed_6 : decode cX11_isPlayed 6 = .ok (.iadd, 1) := by decide +kernel
theorem dX11_isPlayed_7 : decode cX11_isPlayed 7 = .ok (.iaload, 1) := by decide +kernel
theorem dX11_isPlayed_8 : decode cX11_isPlayed 8 = .ok (.istore_n 2, 1) := by decide +kernel
theorem dX11_isPlayed_9 : decode cX11_isPlayed 9 = .ok (.aload_n 0, 1) := by decide +kernel
theorem dX11_isPlayed_10 : decode cX11_isPlayed 10 = .ok (.getfield 16, 3) := by decide +kernel
theorem dX11_isPlayed_13 : decode cX11_isPlayed 13 = .ok (.iload_n 1, 1) := by decide +kernel
theorem dX11_isPlayed_14 : decode cX11_isPlayed 14 = .ok (.iconst 2, 1) := by decide +kernel
theorem dX11_isPlayed_15 : decode cX11_isPlayed 15 = .ok (.iadd, 1) := by decide +kernel
theorem dX11_isPlayed_16 : decode cX11_isPlayed 16 = .ok (.iaload, 1) := by decide +kernel
theorem dX11_isPlayed_17 : decode cX11_isPlayed 17 = .ok (.istore_n 3, 1) := by decide +kernel
theorem dX11_isPlayed_18 : decode cX11_isPlayed 18 = .ok (.aload_n 0, 1) := by decide +kernel
theorem dX11_isPlayed_19 : decode cX11_isPlayed 19 = .ok (.getfield 16, 3) := by decide +kernel
theorem dX11_isPlayed_22 : decode cX11_isPlayed 22 = .ok (.iload_n 1, 1) := by decide +kernel
theorem dX11_isPlayed_23 : decode cX11_isPlayed 23 = .ok (.iaload, 1) := by decide +kernel
theorem dX11_isPlayed_24 : decode cX11_isPlayed 24 = .ok (.tableswitch 140 3 10 #[48, 63, 87, 94, 100, 114, 120, 134], 48) := by decide +kernel
theorem dX11_isPlayed_72 : decode cX11_isPlayed 72 = .ok (.aload_n 0, 1) := by decide +kernel
theorem dX11_isPlayed_73 : decode cX11_isPlayed 73 = .ok (.iload_n 2, 1) := by decide +kernel
theorem dX11_isPlayed_74 : decode cX11_isPlayed 74 = .ok (.iload_n 3, 1) := by decide +kernel
theorem dX11_isPlayed_75 : decode cX11_isPlayed 75 = .ok (.invokevirtual 357, 3) := by decide +kernel
theorem dX11_isPlayed_78 : decode cX11_isPlayed 78 = .ok (.ifCond .lt 7, 3) := by decide +kernel
theorem dX11_isPlayed_81 : decode cX11_isPlayed 81 = .ok (.iconst 1, 1) := by decide +kernel
theorem dX11_isPlayed_82 : decode cX11_isPlayed 82 = .ok (.goto 4, 3) := by decide +kernel
theorem dX11_isPlayed_85 : decode cX11_isPlayed 85 = .ok (.iconst 0, 1) := by decide +kernel
theorem dX11_isPlayed_86 : decode cX11_isPlayed 86 = .ok (.ireturn, 1) := by decide +kernel
theorem dX11_isPlayed_87 : decode cX11_isPlayed 87 = .ok (.aload_n 0, 1) := by decide +kernel
theorem dX11_isPlayed_88 : decode cX11_isPlayed 88 = .ok (.iload_n 2, 1) := by decide +kernel
theorem dX11_isPlayed_89 : decode cX11_isPlayed 89 = .ok (.iload_n 3, 1) := by decide +kernel
theorem dX11_isPlayed_90 : decode cX11_isPlayed 90 = .ok (.aload_n 0, 1) := by decide +kernel
theorem dX11_isPlayed_91 : decode cX11_isPlayed 91 = .ok (.getfield 16, 3) := by decide +kernel
theorem dX11_isPlayed_94 : decode cX11_isPlayed 94 = .ok (.iload_n 1, 1) := by decide +kernel
theorem dX11_isPlayed_95 : decode cX11_isPlayed 95 = .ok (.iconst 3, 1) := by decide +kernel
theorem dX11_isPlayed_96 : decode cX11_isPlayed 96 = .ok (.iadd, 1) := by decide +kernel
theorem dX11_isPlayed_97 : decode cX11_isPlayed 97 = .ok (.iaload, 1) := by decide +kernel
theorem dX11_isPlayed_98 : decode cX11_isPlayed 98 = .ok (.iconst 1, 1) := by decide +kernel
theorem dX11_isPlayed_99 : decode cX11_isPlayed 99 = .ok (.invokevirtual 360, 3) := by decide +kernel
theorem dX11_isPlayed_102 : decode cX11_isPlayed 102 = .ok (.ifCond .lt 7, 3) := by decide +kernel
theorem dX11_isPlayed_105 : decode cX11_isPlayed 105 = .ok (.iconst 1, 1) := by decide +kernel
theorem dX11_isPlayed_106 : decode cX11_isPlayed 106 = .ok (.goto 4, 3) := by decide +kernel
theorem dX11_isPlayed_109 : decode cX11_isPlayed 109 = .ok (.iconst 0, 1) := by decide +kernel
theorem dX11_isPlayed_110 : decode cX11_isPlayed 110 = .ok (.ireturn, 1) := by decide +kernel
theorem dX11_isPlayed_111 : decode cX11_isPlayed 111 = .ok (.aload_n 0, 1) := by decide +kernel
theorem dX11_isPlayed_112 : decode cX11_isPlayed 112 = .ok (.iload_n 2, 1) := by decide +kernel
theorem dX11_isPlayed_113 : decode cX11_isPlayed 113 = .ok (.iload_n 3, 1) := by decide +kernel
theorem dX11_isPlayed_114 : decode cX11_isPlayed 114 = .ok (.invokevirtual 363, 3) := by decide +kernel
theorem dX11_isPlayed_117 : decode cX11_isPlayed 117 = .ok (.ireturn, 1) := by decide +kernel
theorem dX11_isPlayed_118 : decode cX11_isPlayed 118 = .ok (.aload_n 0, 1) := by decide +kernel
theorem dX11_isPlayed_119 : decode cX11_isPlayed 119 = .ok (.iload_n 2, 1) := by decide +kernel
theorem dX11_isPlayed_120 : decode cX11_isPlayed 120 = .ok (.invokevirtual 366, 3) := by decide +kernel
theorem dX11_isPlayed_123 : decode cX11_isPlayed 123 = .ok (.ireturn, 1) := by decide +kernel
theorem dX11_isPlayed_124 : decode cX11_isPlayed 124 = .ok (.aload_n 0, 1) := by decide +kernel
theorem dX11_isPlayed_125 : decode cX11_isPlayed 125 = .ok (.iload_n 2, 1) := by decide +kernel
theorem dX11_isPlayed_126 : decode cX11_isPlayed 126 = .ok (.invokevirtual 369, 3) := by decide +kernel
theorem dX11_isPlayed_129 : decode cX11_isPlayed 129 = .ok (.ifCond .lt 7, 3) := by decide +kernel
theorem dX11_isPlayed_132 : decode cX11_isPlayed 132 = .ok (.iconst 1, 1) := by decide +kernel
theorem dX11_isPlayed_133 : decode cX11_isPlayed 133 = .ok (.goto 4, 3) := by decide +kernel
theorem dX11_isPlayed_136 : decode cX11_isPlayed 136 = .ok (.iconst 0, 1) := by decide +kernel
theorem dX11_isPlayed_137 : decode cX11_isPlayed 137 = .ok (.ireturn, 1) := by decide +kernel
theorem dX11_isPlayed_138 : decode cX11_isPlayed 138 = .ok (.aload_n 0, 1) := by decide +kernel
theorem dX11_isPlayed_139 : decode cX11_isPlayed 139 = .ok (.iload_n 2, 1) := by decide +kernel
theorem dX11_isPlayed_140 : decode cX11_isPlayed 140 = .ok (.invokevirtual 372, 3) := by decide +kernel
theorem dX11_isPlayed_143 : decode cX11_isPlayed 143 = .ok (.ireturn, 1) := by decide +kernel
theorem dX11_isPlayed_144 : decode cX11_isPlayed 144 = .ok (.aload_n 0, 1) := by decide +kernel
theorem dX11_isPlayed_145 : decode cX11_isPlayed 145 = .ok (.iload_n 2, 1) := by decide +kernel
theorem dX11_isPlayed_146 : decode cX11_isPlayed 146 = .ok (.invokevirtual 375, 3) := by decide +kernel
theorem dX11_isPlayed_149 : decode cX11_isPlayed 149 = .ok (.ifCond .lt 7, 3) := by decide +kernel
theorem dX11_isPlayed_152 : decode cX11_isPlayed 152 = .ok (.iconst 1, 1) := by decide +kernel
theorem dX11_isPlayed_153 : decode cX11_isPlayed 153 = .ok (.goto 4, 3) := by decide +kernel
theorem dX11_isPlayed_156 : decode cX11_isPlayed 156 = .ok (.iconst 0, 1) := by decide +kernel
theorem dX11_isPlayed_157 : decode cX11_isPlayed 157 = .ok (.ireturn, 1) := by decide +kernel
theorem dX11_isPlayed_158 : decode cX11_isPlayed 158 = .ok (.aload_n 0, 1) := by decide +kernel
theorem dX11_isPlayed_159 : decode cX11_isPlayed 159 = .ok (.iload_n 2, 1) := by decide +kernel
theorem dX11_isPlayed_160 : decode cX11_isPlayed 160 = .ok (.invokevirtual 354, 3) := by decide +kernel
theorem dX11_isPlayed_163 : decode cX11_isPlayed 163 = .ok (.ireturn, 1) := by decide +kernel
theorem dX11_isPlayed_164 : decode cX11_isPlayed 164 = .ok (.iconst 1, 1) := by decide +kernel
theorem dX11_isPlayed_165 : decode cX11_isPlayed 165 = .ok (.ireturn, 1) := by decide +kernel
theorem dX11_played_0 : decode cX11_played 0 = .ok (.iload_n 1, 1) := by decide +kernel
theorem dX11_played_1 : decode cX11_played 1 = .ok (.iconst 0, 1) := by decide +kernel
theorem dX11_played_2 : decode cX11_played 2 = .ok (.aload_n 0, 1) := by decide +kernel
theorem dX11_played_3 : decode cX11_played 3 = .ok (.getfield 7, 3) := by decide +kernel
theorem dX11_played_6 : decode cX11_played 6 = .ok (.iconst 1, 1) := by decide +kernel
theorem dX11_played_7 : decode cX11_played 7 = .ok (.iaload, 1) := by decide +kernel
theorem dX11_played_8 : decode cX11_played 8 = .ok (.iconst 1, 1) := by decide +kernel
theorem dX11_played_9 : decode cX11_played 9 = .ok (.isub, 1) := by decide +kernel
theorem dX11_played_10 : decode cX11_played 10 = .ok (.invokestatic 62, 3) := by decide +kernel
theorem dX11_played_13 : decode cX11_played 13 = .ok (.ifCond .ne 6, 3) := by decide +kernel
theorem dX11_played_16 : decode cX11_played 16 = .ok (.bipush (-2), 2) := by decide +kernel
theorem dX11_played_18 : decode cX11_played 18 = .ok (.ireturn, 1) := by decide +kernel
theorem dX11_played_19 : decode cX11_played 19 = .ok (.iconst 0, 1) := by decide +kernel
theorem dX11_played_20 : decode cX11_played 20 = .ok (.istore_n 2, 1) := by decide +kernel
theorem dX11_played_21 : decode cX11_played 21 = .ok (.iload_n 2, 1) := by decide +kernel
theorem dX11_played_22 : decode cX11_played 22 = .ok (.aload_n 0, 1) := by decide +kernel
theorem dX11_played_23 : decode cX11_played 23 = .ok (.getfield 16, 3) := by decide +kernel
theorem dX11_played_26 : decode cX11_played 26 = .ok (.sipush 705, 3) := by decide +kernel
theorem dX11_played_29 : decode cX11_played 29 = .ok (.iload_n 1, 1) := by decide +kernel
theorem dX11_played_30 : decode cX11_played 30 = .ok (.imul, 1) := by decide +kernel
theorem dX11_played_31 : decode cX11_played 31 = .ok (.iaload, 1) := by decide +kernel
theorem dX11_played_32 : decode cX11_played 32 = .ok (.if_icmp .ge 29, 3) := by decide +kernel
theorem dX11_played_35 : decode cX11_played 35 = .ok (.aload_n 0, 1) := by decide +kernel
theorem dX11_played_36 : decode cX11_played 36 = .ok (.sipush 705, 3) := by decide +kernel
theorem dX11_played_39 : decode cX11_played 39 = .ok (.iload_n 1, 1) := by decide +kernel
theorem dX11_played_40 : decode cX11_played 40 = .ok (.imul, 1) := by decide +kernel
theorem dX11_played_41 : decode cX11_played 41 = .ok (.iconst 1, 1) := by decide +kernel
theorem dX11_played_42 : decode cX11_played 42 = .ok (.iadd, 1) := by decide +kernel
theorem dX11_played_43 : decode cX11_played 43 = .ok (.iconst 4, 1) := by decide +kernel
theorem dX11_played_44 : decode cX11_played 44 = .ok (.iload_n 2, 1) := by decide +kernel
theorem dX11_played_45 : decode cX11_played 45 = .ok (.imul, 1) := by decide +kernel
theorem dX11_played_46 : decode cX11_played 46 = .ok (.iadd, 1) := by decide +kernel
theorem dX11_played_47 : decode cX11_played 47 = .ok (.invokevirtual 378, 3) := by decide +kernel
theorem dX11_played_50 : decode cX11_played 50 = .ok (.ifCond .ne 5, 3) := by decide +kernel
theorem dX11_played_53 : decode cX11_played 53 = .ok (.iload_n 2, 1) := by decide +kernel
theorem dX11_played_54 : decode cX11_played 54 = .ok (.ireturn, 1) := by decide +kernel
theorem dX11_played_55 : decode cX11_played 55 = .ok (.iinc 2 1, 3) := by decide +kernel
theorem dX11_played_58 : decode cX11_played 58 = .ok (.goto (-37), 3) := by decide +kernel
theorem dX11_played_61 : decode cX11_played 61 = .ok (.iconst (-1), 1) := by decide +kernel
theorem dX11_played_62 : decode cX11_played 62 = .ok (.ireturn, 1) := by decide +kernel
theorem dX11_happens_0 : decode cX11_happens 0 = .ok (.iload_n 1, 1) := by decide +kernel
theorem dX11_happens_1 : decode cX11_happens 1 = .ok (.bipush 6, 2) := by decide +kernel
theorem dX11_happens_3 : decode cX11_happens 3 = .ok (.irem, 1) := by decide +kernel
theorem dX11_happens_4 : decode cX11_happens 4 = .ok (.iconst 5, 1) := by decide +kernel
theorem dX11_happens_5 : decode cX11_happens 5 = .ok (.if_icmp .ne 21, 3) := by decide +kernel
theorem dX11_happens_8 : decode cX11_happens 8 = .ok (.aload_n 0, 1) := by decide +kernel
theorem dX11_happens_9 : decode cX11_happens 9 = .ok (.getfield 7, 3) := by decide +kernel
theorem dX11_happens_12 : decode cX11_happens 12 = .ok (.bipush 10, 2) := by decide +kernel
theorem dX11_happens_14 : decode cX11_happens 14 = .ok (.iaload, 1) := by decide +kernel
theorem dX11_happens_15 : decode cX11_happens 15 = .ok (.sipush 9999, 3) := by decide +kernel
theorem dX11_happens_18 : decode cX11_happens 18 = .ok (.if_icmp .ge 7, 3) := by decide +kernel
theorem dX11_happens_21 : decode cX11_happens 21 = .ok (.aload_n 0, 1) := by decide +kernel
theorem dX11_happens_22 : decode cX11_happens 22 = .ok (.invokevirtual 351, 3) := by decide +kernel
theorem dX11_happens_25 : decode cX11_happens 25 = .ok (.return_, 1) := by decide +kernel
theorem dX11_happens_26 : decode cX11_happens 26 = .ok (.aload_n 0, 1) := by decide +kernel
theorem dX11_happens_27 : decode cX11_happens 27 = .ok (.getfield 7, 3) := by decide +kernel
theorem dX11_happens_30 : decode cX11_happens 30 = .ok (.bipush 14, 2) := by decide +kernel
theorem dX11_happens_32 : decode cX11_happens 32 = .ok (.iaload, 1) := by decide +kernel
theorem dX11_happens_33 : decode cX11_happens 33 = .ok (.ifCond .ne 4, 3) := by decide +kernel
theorem dX11_happens_36 : decode cX11_happens 36 = .ok (.return_, 1) := by decide +kernel
theorem dX11_happens_37 : decode cX11_happens 37 = .ok (.iload_n 1, 1) := by decide +kernel
theorem dX11_happens_38 : decode cX11_happens 38 = .ok (.aload_n 0, 1) := by decide +kernel
theorem dX11_happens_39 : decode cX11_happens 39 = .ok (.getfield 7, 3) := by decide +kernel
theorem dX11_happens_42 : decode cX11_happens 42 = .ok (.bipush 14, 2) := by decide +kernel
theorem dX11_happens_44 : decode cX11_happens 44 = .ok (.iaload, 1) := by decide +kernel
theorem dX11_happens_45 : decode cX11_happens 45 = .ok (.irem, 1) := by decide +kernel
theorem dX11_happens_46 : decode cX11_happens 46 = .ok (.istore_n 2, 1) := by decide +kernel
theorem dX11_happens_47 : decode cX11_happens 47 = .ok (.iload_n 1, 1) := by decide +kernel
theorem dX11_happens_48 : decode cX11_happens 48 = .ok (.bipush 6, 2) := by decide +kernel
theorem dX11_happens_50 : decode cX11_happens 50 = .ok (.irem, 1) := by decide +kernel
theorem dX11_happens_51 : decode cX11_happens 51 = .ok (.iconst 4, 1) := by decide +kernel
theorem dX11_happens_52 : decode cX11_happens 52 = .ok (.if_icmp .ne 12, 3) := by decide +kernel
theorem dX11_happens_55 : decode cX11_happens 55 = .ok (.aload_n 0, 1) := by decide +kernel
theorem dX11_happens_56 : decode cX11_happens 56 = .ok (.iconst 1, 1) := by decide +kernel
theorem dX11_happens_57 : decode cX11_happens 57 = .ok (.invokevirtual 348, 3) := by decide +kernel
theorem dX11_happens_60 : decode cX11_happens 60 = .ok (.pop, 1) := by decide +kernel
theorem dX11_happens_61 : decode cX11_happens 61 = .ok (.goto 47, 3) := by decide +kernel
theorem dX11_happens_64 : decode cX11_happens 64 = .ok (.iload_n 1, 1) := by decide +kernel
theorem dX11_happens_65 : decode cX11_happens 65 = .ok (.bipush 6, 2) := by decide +kernel
theorem dX11_happens_67 : decode cX11_happens 67 = .ok (.irem, 1) := by decide +kernel
theorem dX11_happens_68 : decode cX11_happens 68 = .ok (.iconst 3, 1) := by decide +kernel
theorem dX11_happens_69 : decode cX11_happens 69 = .ok (.if_icmp .ne 26, 3) := by decide +kernel
theorem dX11_happens_72 : decode cX11_happens 72 = .ok (.aload_n 0, 1) := by decide +kernel
theorem dX11_happens_73 : decode cX11_happens 73 = .ok (.iload_n 2, 1) := by decide +kernel
theorem dX11_happens_74 : decode cX11_happens 74 = .ok (.invokevirtual 339, 3) := by decide +kernel
theorem dX11_happens_77 : decode cX11_happens 77 = .ok (.ifCond .eq 31, 3) := by decide +kernel
theorem dX11_happens_80 : decode cX11_happens 80 = .ok (.aload_n 0, 1) := by decide +kernel
theorem dX11_happens_81 : decode cX11_happens 81 = .ok (.iload_n 2, 1) := by decide +kernel
theorem dX11_happens_82 : decode cX11_happens 82 = .ok (.iconst 0, 1) := by decide +kernel
theorem dX11_happens_83 : decode cX11_happens 83 = .ok (.aload_n 0, 1) := by decide +kernel
theorem dX11_happens_84 : decode cX11_happens 84 = .ok (.iload_n 2, 1) := by decide +kernel
theorem dX11_happens_85 : decode cX11_happens 85 = .ok (.iconst 4, 1) := by decide +kernel
theorem dX11_happens_86 : decode cX11_happens 86 = .ok (.invokevirtual 66, 3) := by decide +kernel
theorem dX11_happens_89 : decode cX11_happens 89 = .ok (.invokevirtual 330, 3) := by decide +kernel
theorem dX11_happens_92 : decode cX11_happens 92 = .ok (.goto 16, 3) := by decide +kernel
theorem dX11_happens_95 : decode cX11_happens 95 = .ok (.aload_n 0, 1) := by decide +kernel
theorem dX11_happens_96 : decode cX11_happens 96 = .ok (.iload_n 2, 1) := by decide +kernel
theorem dX11_happens_97 : decode cX11_happens 97 = .ok (.invokevirtual 70, 3) := by decide +kernel
theorem dX11_happens_100 : decode cX11_happens 100 = .ok (.ifCond .eq 8, 3) := by decide +kernel
theorem dX11_happens_103 : decode cX11_happens 103 = .ok (.aload_n 0, 1) := by decide +kernel
theorem dX11_happens_104 : decode cX11_happens 104 = .ok (.iload_n 2, 1) := by decide +kernel
theorem dX11_happens_105 : decode cX11_happens 105 = .ok (.invokevirtual 345, 3) := by decide +kernel
theorem dX11_happens_108 : decode cX11_happens 108 = .ok (.return_, 1) := by decide +kernel
theorem dX11_seasons_0 : decode cX11_seasons 0 = .ok (.iload_n 1, 1) := by decide +kernel
theorem dX11_seasons_1 : decode cX11_seasons 1 = .ok (.iconst 0, 1) := by decide +kernel
theorem dX11_seasons_2 : decode cX11_seasons 2 = .ok (.sipush 9999, 3) := by decide +kernel
theorem dX11_seasons_5 : decode cX11_seasons 5 = .ok (.invokestatic 62, 3) := by decide +kernel
theorem dX11_seasons_8 : decode cX11_seasons 8 = .ok (.ifCond .eq 13, 3) := by decide +kernel
theorem dX11_seasons_11 : decode cX11_seasons 11 = .ok (.iload_n 2, 1) := by decide +kernel
theorem dX11_seasons_12 : decode cX11_seasons 12 = .ok (.iconst 1, 1) := by decide +kernel
theorem dX11_seasons_13 : decode cX11_seasons 13 = .ok (.bipush 40, 2) := by decide +kernel
theorem dX11_seasons_15 : decode cX11_seasons 15 = .ok (.invokestatic 62, 3) := by decide +kernel
theorem dX11_seasons_18 : decode cX11_seasons 18 = .ok (.ifCond .ne 5, 3) := by decide +kernel
theorem dX11_seasons_21 : decode cX11_seasons 21 = .ok (.iconst (-1), 1) := by decide +kernel
theorem dX11_seasons_22 : decode cX11_seasons 22 = .ok (.ireturn, 1) := by decide +kernel
theorem dX11_seasons_23 : decode cX11_seasons 23 = .ok (.aload_n 0, 1) := by decide +kernel
theorem dX11_seasons_24 : decode cX11_seasons 24 = .ok (.invokevirtual 342, 3) := by decide +kernel
theorem dX11_seasons_27 : decode cX11_seasons 27 = .ok (.aload_n 0, 1) := by decide +kernel
theorem dX11_seasons_28 : decode cX11_seasons 28 = .ok (.getfield 7, 3) := by decide +kernel
theorem dX11_seasons_31 : decode cX11_seasons 31 = .ok (.bipush 11, 2) := by decide +kernel
theorem dX11_seasons_33 : decode cX11_seasons 33 = .ok (.iload_n 1, 1) := by decide +kernel
theorem dX11_seasons_34 : decode cX11_seasons 34 = .ok (.iconst 2, 1) := by decide +kernel
theorem dX11_seasons_35 : decode cX11_seasons 35 = .ok (.imul, 1) := by decide +kernel
theorem dX11_seasons_36 : decode cX11_seasons 36 = .ok (.sipush 167, 3) := by decide +kernel
theorem dX11_seasons_39 : decode cX11_seasons 39 = .ok (.iadd, 1) := by decide +kernel
theorem dX11_seasons_40 : decode cX11_seasons 40 = .ok (.iastore, 1) := by decide +kernel
theorem dX11_seasons_41 : decode cX11_seasons 41 = .ok (.iconst 0, 1) := by decide +kernel
theorem dX11_seasons_42 : decode cX11_seasons 42 = .ok (.istore_n 3, 1) := by decide +kernel
theorem dX11_seasons_43 : decode cX11_seasons 43 = .ok (.iload_n 3, 1) := by decide +kernel
theorem dX11_seasons_44 : decode cX11_seasons 44 = .ok (.iload_n 2, 1) := by decide +kernel
theorem dX11_seasons_45 : decode cX11_seasons 45 = .ok (.if_icmp .ge 28, 3) := by decide +kernel
theorem dX11_seasons_48 : decode cX11_seasons 48 = .ok (.aload_n 0, 1) := by decide +kernel
theorem dX11_seasons_49 : decode cX11_seasons 49 = .ok (.getfield 7, 3) := by decide +kernel
theorem dX11_seasons_52 : decode cX11_seasons 52 = .ok (.bipush 11, 2) := by decide +kernel
theorem dX11_seasons_54 : decode cX11_seasons 54 = .ok (.iaload, 1) := by decide +kernel
theorem dX11_seasons_55 : decode cX11_seasons 55 = .ok (.istore 4, 2) := by decide +kernel
theorem dX11_seasons_57 : decode cX11_seasons 57 = .ok (.aload_n 0, 1) := by decide +kernel
theorem dX11_seasons_58 : decode cX11_seasons 58 = .ok (.invokevirtual 327, 3) := by decide +kernel
theorem dX11_seasons_61 : decode cX11_seasons 61 = .ok (.aload_n 0, 1) := by decide +kernel
theorem dX11_seasons_62 : decode cX11_seasons 62 = .ok (.iload 4, 2) := by decide +kernel
theorem dX11_seasons_64 : decode cX11_seasons 64 = .ok (.invokevirtual 381, 3) := by decide +kernel
theorem dX11_seasons_67 : decode cX11_seasons 67 = .ok (.iinc 3 1, 3) := by decide +kernel
theorem dX11_seasons_70 : decode cX11_seasons 70 = .ok (.goto (-27), 3) := by decide +kernel
theorem dX11_seasons_73 : decode cX11_seasons 73 = .ok (.aload_n 0, 1) := by decide +kernel
theorem dX11_seasons_74 : decode cX11_seasons 74 = .ok (.getfield 7, 3) := by decide +kernel
theorem dX11_seasons_77 : decode cX11_seasons 77 = .ok (.bipush 10, 2) := by decide +kernel
theorem dX11_seasons_79 : decode cX11_seasons 79 = .ok (.iaload, 1) := by decide +kernel
theorem dX11_seasons_80 : decode cX11_seasons 80 = .ok (.ireturn, 1) := by decide +kernel
theorem dX11_worthOf_0 : decode cX11_worthOf 0 = .ok (.iconst 0, 1) := by decide +kernel
theorem dX11_worthOf_1 : decode cX11_worthOf 1 = .ok (.istore_n 2, 1) := by decide +kernel
theorem dX11_worthOf_2 : decode cX11_worthOf 2 = .ok (.iconst 0, 1) := by decide +kernel
theorem dX11_worthOf_3 : decode cX11_worthOf 3 = .ok (.istore_n 3, 1) := by decide +kernel
theorem dX11_worthOf_4 : decode cX11_worthOf 4 = .ok (.iload_n 3, 1) := by decide +kernel
theorem dX11_worthOf_5 : decode cX11_worthOf 5 = .ok (.aload_n 0, 1) := by decide +kernel
theorem dX11_worthOf_6 : decode cX11_worthOf 6 = .ok (.getfield 7, 3) := by decide +kernel
theorem dX11_worthOf_9 : decode cX11_worthOf 9 = .ok (.bipush 14, 2) := by decide +kernel
theorem dX11_worthOf_11 : decode cX11_worthOf 11 = .ok (.iaload, 1) := by decide +kernel
theorem dX11_worthOf_12 : decode cX11_worthOf 12 = .ok (.if_icmp .ge 30, 3) := by decide +kernel
theorem dX11_worthOf_15 : decode cX11_worthOf 15 = .ok (.iload_n 2, 1) := by decide +kernel
theorem dX11_worthOf_16 : decode cX11_worthOf 16 = .ok (.iload_n 1, 1) := by decide +kernel
theorem dX11_worthOf_17 : decode cX11_worthOf 17 = .ok (.iload_n 3, 1) := by decide +kernel
theorem dX11_worthOf_18 : decode cX11_worthOf 18 = .ok (.invokestatic 84, 3) := by decide +kernel
theorem dX11_worthOf_21 : decode cX11_worthOf 21 = .ok (.ifCond .eq 12, 3) := by decide +kernel
theorem dX11_worthOf_24 : decode cX11_worthOf 24 = .ok (.aload_n 0, 1) := by decide +kernel
theorem dX11_worthOf_25 : decode cX11_worthOf 25 = .ok (.iload_n 3, 1) := by decide +kernel
theorem dX11_worthOf_26 : decode cX11_worthOf 26 = .ok (.iconst 5, 1) := by decide +kernel
theorem dX11_worthOf_27 : decode cX11_worthOf 27 = .ok (.invokevirtual 66, 3) := by decide +kernel
theorem dX11_worthOf_30 : decode cX11_worthOf 30 = .ok (.goto 4, 3) := by decide +kernel
theorem dX11_worthOf_33 : decode cX11_worthOf 33 = .ok (.iconst 0, 1) := by decide +kernel
theorem dX11_worthOf_34 : decode cX11_worthOf 34 = .ok (.iadd, 1) := by decide +kernel
theorem dX11_worthOf_35 : decode cX11_worthOf 35 = .ok (.istore_n 2, 1) := by decide +kernel
theorem dX11_worthOf_36 : decode cX11_worthOf 36 = .ok (.iinc 3 1, 3) := by decide +kernel
theorem dX11_worthOf_39 : decode cX11_worthOf 39 = .ok (.goto (-35), 3) := by decide +kernel
theorem dX11_worthOf_42 : decode cX11_worthOf 42 = .ok (.iload_n 2, 1) := by decide +kernel
theorem dX11_worthOf_43 : decode cX11_worthOf 43 = .ok (.ireturn, 1) := by decide +kernel
theorem dX11_isCreased_0 : decode cX11_isCreased 0 = .ok (.iconst 0, 1) := by decide +kernel
theorem dX11_isCreased_1 : decode cX11_isCreased 1 = .ok (.istore_n 3, 1) := by decide +kernel
theorem dX11_isCreased_2 : decode cX11_isCreased 2 = .ok (.iload_n 3, 1) := by decide +kernel
theorem dX11_isCreased_3 : decode cX11_isCreased 3 = .ok (.aload_n 0, 1) := by decide +kernel
theorem dX11_isCreased_4 : decode cX11_isCreased 4 = .ok (.getfield 7, 3) := by decide +kernel
theorem dX11_isCreased_7 : decode cX11_isCreased 7 = .ok (.bipush 14, 2) := by decide +kernel
theorem dX11_isCreased_9 : decode cX11_isCreased 9 = .ok (.iaload, 1) := by decide +kernel
theorem dX11_isCreased_10 : decode cX11_isCreased 10 = .ok (.if_icmp .ge 39, 3) := by decide +kernel
theorem dX11_isCreased_13 : decode cX11_isCreased 13 = .ok (.aload_n 0, 1) := by decide +kernel
theorem dX11_isCreased_14 : decode cX11_isCreased 14 = .ok (.iload_n 3, 1) := by decide +kernel
theorem dX11_isCreased_15 : decode cX11_isCreased 15 = .ok (.iconst 2, 1) := by decide +kernel
theorem dX11_isCreased_16 : decode cX11_isCreased 16 = .ok (.invokevirtual 66, 3) := by decide +kernel
theorem dX11_isCreased_19 : decode cX11_isCreased 19 = .ok (.iload_n 1, 1) := by decide +kernel
theorem dX11_isCreased_20 : decode cX11_isCreased 20 = .ok (.if_icmp .ne 23, 3) := by decide +kernel
theorem dX11_isCreased_23 : decode cX11_isCreased 23 = .ok (.aload_n 0, 1) := by decide +kernel
theorem dX11_isCreased_24 : decode cX11_isCreased 24 = .ok (.iload_n 3, 1) := by decide +kernel
theorem dX11_isCreased_25 : decode cX11_isCreased 25 = .ok (.invokevirtual 70, 3) := by decide +kernel
theorem dX11_isCreased_28 : decode cX11_isCreased 28 = .ok (.ifCond .eq 15, 3) := by decide +kernel
theorem dX11_isCreased_31 : decode cX11_isCreased 31 = .ok (.aload_n 0, 1) := by decide +kernel
theorem dX11_isCreased_32 : decode cX11_isCreased 32 = .ok (.iload_n 3, 1) := by decide +kernel
theorem dX11_isCreased_33 : decode cX11_isCreased 33 = .ok (.iconst 3, 1) := by decide +kernel
theorem dX11_isCreased_34 : decode cX11_isCreased 34 = .ok (.invokevirtual 66, 3) := by decide +kernel
theorem dX11_isCreased_37 : decode cX11_isCreased 37 = .ok (.iload_n 2, 1) := by decide +kernel
theorem dX11_isCreased_38 : decode cX11_isCreased 38 = .ok (.if_icmp .ne 5, 3) := by decide +kernel
theorem dX11_isCreased_41 : decode cX11_isCreased 41 = .ok (.iconst 1, 1) := by decide +kernel
theorem dX11_isCreased_42 : decode cX11_isCreased 42 = .ok (.ireturn, 1) := by decide +kernel
theorem dX11_isCreased_43 : decode cX11_isCreased 43 = .ok (.iinc 3 1, 3) := by decide +kernel
theorem dX11_isCreased_46 : decode cX11_isCreased 46 = .ok (.goto (-44), 3) := by decide +kernel
theorem dX11_isCreased_49 : decode cX11_isCreased 49 = .ok (.iconst 0, 1) := by decide +kernel
theorem dX11_isCreased_50 : decode cX11_isCreased 50 = .ok (.ireturn, 1) := by decide +kernel
theorem dX11_spanOf_0 : decode cX11_spanOf 0 = .ok (.iconst 0, 1) := by decide +kernel
theorem dX11_spanOf_1 : decode cX11_spanOf 1 = .ok (.istore_n 2, 1) := by decide +kernel
theorem dX11_spanOf_2 : decode cX11_spanOf 2 = .ok (.iconst 0, 1) := by decide +kernel
theorem dX11_spanOf_3 : decode cX11_spanOf 3 = .ok (.istore_n 3, 1) := by decide +kernel
theorem dX11_spanOf_4 : decode cX11_spanOf 4 = .ok (.iconst 0, 1) := by decide +kernel
theorem dX11_spanOf_5 : decode cX11_spanOf 5 = .ok (.istore 4, 2) := by decide +kernel
theorem dX11_spanOf_7 : decode cX11_spanOf 7 = .ok (.iload 4, 2) := by decide +kernel
theorem dX11_spanOf_9 : decode cX11_spanOf 9 = .ok (.bipush 100, 2) := by decide +kernel
theorem dX11_spanOf_11 : decode cX11_spanOf 11 = .ok (.if_icmp .ge 38, 3) := by decide +kernel
theorem dX11_spanOf_14 : decode cX11_spanOf 14 = .ok (.aload_n 0, 1) := by decide +kernel
theorem dX11_spanOf_15 : decode cX11_spanOf 15 = .ok (.iload_n 1, 1) := by decide +kernel
theorem dX11_spanOf_16 : decode cX11_spanOf 16 = .ok (.iload 4, 2) := by decide +kernel
theorem dX11_spanOf_18 : decode cX11_spanOf 18 = .ok (.invokevirtual 384, 3) := by decide +kernel
theorem dX11_spanOf_21 : decode cX11_spanOf 21 = .ok (.ifCond .eq 7, 3) := by decide +kernel
theorem dX11_spanOf_24 : decode cX11_spanOf 24 = .ok (.iconst 0, 1) := by decide +kernel
theorem dX11_spanOf_25 : decode cX11_spanOf 25 = .ok (.goto 6, 3) := by decide +kernel
theorem dX11_spanOf_28 : decode cX11_spanOf 28 = .ok (.iload_n 3, 1) := by decide +kernel
theorem dX11_spanOf_29 : decode cX11_spanOf 29 = .ok (.iconst 1, 1) := by decide +kernel
theorem dX11_spanOf_30 : decode cX11_spanOf 30 = .ok (.iadd, 1) := by decide +kernel
theorem dX11_spanOf_31 : decode cX11_spanOf 31 = .ok (.istore_n 3, 1) := by decide +kernel
theorem dX11_spanOf_32 : decode cX11_spanOf 32 = .ok (.iload_n 3, 1) := by decide +kernel
theorem dX11_spanOf_33 : decode cX11_spanOf 33 = .ok (.iload_n 2, 1) := by decide +kernel
theorem dX11_spanOf_34 : decode cX11_spanOf 34 = .ok (.if_icmp .le 7, 3) := by decide +kernel
theorem dX11_spanOf_37 : decode cX11_spanOf 37 = .ok (.iload_n 3, 1) := by decide +kernel
theorem dX11_spanOf_38 : decode cX11_spanOf 38 = .ok (.goto 4, 3) := by decide +kernel
theorem dX11_spanOf_41 : decode cX11_spanOf 41 = .ok (.iload_n 2, 1) := by decide +kernel
theorem dX11_spanOf_42 : decode cX11_spanOf 42 = .ok (.istore_n 2, 1) := by decide +kernel
theorem dX11_spanOf_43 : decode cX11_spanOf 43 = .ok (.iinc 4 1, 3) := by decide +kernel
theorem dX11_spanOf_46 : decode cX11_spanOf 46 = .ok (.goto (-39), 3) := by decide +kernel
theorem dX11_spanOf_49 : decode cX11_spanOf 49 = .ok (.iload_n 2, 1) := by decide +kernel
theorem dX11_spanOf_50 : decode cX11_spanOf 50 = .ok (.ireturn, 1) := by decide +kernel
theorem dX11_of_0 : decode cX11_of 0 = .ok (.aload_n 0, 1) := by decide +kernel
theorem dX11_of_1 : decode cX11_of 1 = .ok (.iload_n 1, 1) := by decide +kernel
theorem dX11_of_2 : decode cX11_of 2 = .ok (.invokevirtual 74, 3) := by decide +kernel
theorem dX11_of_5 : decode cX11_of 5 = .ok (.ifCond .ne 7, 3) := by decide +kernel
theorem dX11_of_8 : decode cX11_of 8 = .ok (.sipush (-1000), 3) := by decide +kernel
theorem dX11_of_11 : decode cX11_of 11 = .ok (.ireturn, 1) := by decide +kernel
theorem dX11_of_12 : decode cX11_of 12 = .ok (.iload_n 2, 1) := by decide +kernel
theorem dX11_of_13 : decode cX11_of 13 = .ok (.tableswitch 91 0 5 #[39, 46, 53, 59, 70, 85], 39) := by decide +kernel
theorem dX11_of_52 : decode cX11_of 52 = .ok (.aload_n 0, 1) := by decide +kernel
theorem dX11_of_53 : decode cX11_of 53 = .ok (.iload_n 1, 1) := by decide +kernel
theorem dX11_of_54 : decode cX11_of 54 = .ok (.iconst 1, 1) := by decide +kernel
theorem dX11_of_55 : decode cX11_of 55 = .ok (.invokevirtual 296, 3) := by decide +kernel
theorem dX11_of_58 : decode cX11_of 58 = .ok (.ireturn, 1) := by decide +kernel
theorem dX11_of_59 : decode cX11_of 59 = .ok (.aload_n 0, 1) := by decide +kernel
theorem dX11_of_60 : decode cX11_of 60 = .ok (.iload_n 1, 1) := by decide +kernel
theorem dX11_of_61 : decode cX11_of 61 = .ok (.iconst 0, 1) := by decide +kernel
theorem dX11_of_62 : decode cX11_of 62 = .ok (.invokevirtual 296, 3) := by decide +kernel
theorem dX11_of_65 : decode cX11_of 65 = .ok (.ireturn, 1) := by decide +kernel
theorem dX11_of_66 : decode cX11_of 66 = .ok (.aload_n 0, 1) := by decide +kernel
theorem dX11_of_67 : decode cX11_of 67 = .ok (.iload_n 1, 1) := by decide +kernel
theorem dX11_of_68 : decode cX11_of 68 = .ok (.invokevirtual 387, 3) := by decide +kernel
theorem dX11_of_71 : decode cX11_of 71 = .ok (.ireturn, 1) := by decide +kernel
theorem dX11_of_72 : decode cX11_of 72 = .ok (.aload_n 0, 1) := by decide +kernel
theorem dX11_of_73 : decode cX11_of 73 = .ok (.iload_n 1, 1) := by decide +kernel
theorem dX11_of_74 : decode cX11_of 74 = .ok (.invokevirtual 387, 3) := by decide +kernel
theorem dX11_of_77 : decode cX11_of 77 = .ok (.aload_n 0, 1) := by decide +kernel
theorem dX11_of_78 : decode cX11_of 78 = .ok (.invokevirtual 336, 3) := by decide +kernel
theorem dX11_of_81 : decode cX11_of 81 = .ok (.iand, 1) := by decide +kernel
theorem dX11_of_82 : decode cX11_of 82 = .ok (.ireturn, 1) := by decide +kernel
theorem dX11_of_83 : decode cX11_of 83 = .ok (.aload_n 0, 1) := by decide +kernel
theorem dX11_of_84 : decode cX11_of 84 = .ok (.aload_n 0, 1) := by decide +kernel
theorem dX11_of_85 : decode cX11_of 85 = .ok (.iload_n 1, 1) := by decide +kernel
theorem dX11_of_86 : decode cX11_of 86 = .ok (.invokevirtual 387, 3) := by decide +kernel
theorem dX11_of_89 : decode cX11_of 89 = .ok (.aload_n 0, 1) := by decide +kernel
theorem dX11_of_90 : decode cX11_of 90 = .ok (.invokevirtual 336, 3) := by decide +kernel
theorem dX11_of_93 : decode cX11_of 93 = .ok (.iand, 1) := by decide +kernel
theorem dX11_of_94 : decode cX11_of 94 = .ok (.invokevirtual 390, 3) := by decide +kernel
theorem dX11_of_97 : decode cX11_of 97 = .ok (.ireturn, 1) := by decide +kernel
theorem dX11_of_98 : decode cX11_of 98 = .ok (.aload_n 0, 1) := by decide +kernel
theorem dX11_of_99 : decode cX11_of 99 = .ok (.iload_n 1, 1) := by decide +kernel
theorem dX11_of_100 : decode cX11_of 100 = .ok (.invokevirtual 393, 3) := by decide +kernel
theorem dX11_of_103 : decode cX11_of 103 = .ok (.ireturn, 1) := by decide +kernel
theorem dX11_of_104 : decode cX11_of 104 = .ok (.sipush (-1000), 3) := by decide +kernel
theorem dX11_of_107 : decode cX11_of 107 = .ok (.ireturn, 1) := by decide +kernel
theorem dX11_ofCrease_0 : decode cX11_ofCrease 0 = .ok (.aload_n 0, 1) := by decide +kernel
theorem dX11_ofCrease_1 : decode cX11_ofCrease 1 = .ok (.iload_n 1, 1) := by decide +kernel
theorem dX11_ofCrease_2 : decode cX11_ofCrease 2 = .ok (.invokevirtual 81, 3) := by decide +kernel
theorem dX11_ofCrease_5 : decode cX11_ofCrease 5 = .ok (.ifCond .ne 7, 3) := by decide +kernel
theorem dX11_ofCrease_8 : decode cX11_ofCrease 8 = .ok (.sipush (-1000), 3) := by decide +kernel
theorem dX11_ofCrease_11 : decode cX11_ofCrease 11 = .ok (.ireturn, 1) := by decide +kernel
theorem dX11_ofCrease_12 : decode cX11_ofCrease 12 = .ok (.iload_n 2, 1) := by decide +kernel
theorem dX11_ofCrease_13 : decode cX11_ofCrease 13 = .ok (.tableswitch 118 0 8 #[51, 58, 65, 72, 79, 86, 94, 100, 106], 51) := by decide +kernel
theorem dX11_ofCrease_64 : decode cX11_ofCrease 64 = .ok (.aload_n 0, 1) := by decide +kernel
theorem dX11_ofCrease_65 : decode cX11_ofCrease 65 = .ok (.iload_n 1, 1) := by decide +kernel
theorem dX11_ofCrease_66 : decode cX11_ofCrease 66 = .ok (.iconst 2, 1) := by decide +kernel
theorem dX11_ofCrease_67 : decode cX11_ofCrease 67 = .ok (.invokevirtual 66, 3) := by decide +kernel
theorem dX11_ofCrease_70 : decode cX11_ofCrease 70 = .ok (.ireturn, 1) := by decide +kernel
theorem dX11_ofCrease_71 : decode cX11_ofCrease 71 = .ok (.aload_n 0, 1) := by decide +kernel
theorem dX11_ofCrease_72 : decode cX11_ofCrease 72 = .ok (.iload_n 1, 1) := by decide +kernel
theorem dX11_ofCrease_73 : decode cX11_ofCrease 73 = .ok (.iconst 3, 1) := by decide +kernel
theorem dX11_ofCrease_74 : decode cX11_ofCrease 74 = .ok (.invokevirtual 66, 3) := by decide +kernel
theorem dX11_ofCrease_77 : decode cX11_ofCrease 77 = .ok (.ireturn, 1) := by decide +kernel
theorem dX11_ofCrease_78 : decode cX11_ofCrease 78 = .ok (.aload_n 0, 1) := by decide +kernel
theorem dX11_ofCrease_79 : decode cX11_ofCrease 79 = .ok (.iload_n 1, 1) := by decide +kernel
theorem dX11_ofCrease_80 : decode cX11_ofCrease 80 = .ok (.iconst 0, 1) := by decide +kernel
theorem dX11_ofCrease_81 : decode cX11_ofCrease 81 = .ok (.invokevirtual 66, 3) := by decide +kernel
theorem dX11_ofCrease_84 : decode cX11_ofCrease 84 = .ok (.ireturn, 1) := by decide +kernel
theorem dX11_ofCrease_85 : decode cX11_ofCrease 85 = .ok (.aload_n 0, 1) := by decide +kernel
theorem dX11_ofCrease_86 : decode cX11_ofCrease 86 = .ok (.iload_n 1, 1) := by decide +kernel
theorem dX11_ofCrease_87 : decode cX11_ofCrease 87 = .ok (.iconst 5, 1) := by decide +kernel
theorem dX11_ofCrease_88 : decode cX11_ofCrease 88 = .ok (.invokevirtual 66, 3) := by decide +kernel
theorem dX11_ofCrease_91 : decode cX11_ofCrease 91 = .ok (.ireturn, 1) := by decide +kernel
theorem dX11_ofCrease_92 : decode cX11_ofCrease 92 = .ok (.aload_n 0, 1) := by decide +kernel
theorem dX11_ofCrease_93 : decode cX11_ofCrease 93 = .ok (.iload_n 1, 1) := by decide +kernel
theorem dX11_ofCrease_94 : decode cX11_ofCrease 94 = .ok (.iconst 1, 1) := by decide +kernel
theorem dX11_ofCrease_95 : decode cX11_ofCrease 95 = .ok (.invokevirtual 66, 3) := by decide +kernel
theorem dX11_ofCrease_98 : decode cX11_ofCrease 98 = .ok (.ireturn, 1) := by decide +kernel
theorem dX11_ofCrease_99 : decode cX11_ofCrease 99 = .ok (.aload_n 0, 1) := by decide +kernel
theorem dX11_ofCrease_100 : decode cX11_ofCrease 100 = .ok (.iload_n 1, 1) := by decide +kernel
theorem dX11_ofCrease_101 : decode cX11_ofCrease 101 = .ok (.bipush 6, 2) := by decide +kernel
theorem dX11_ofCrease_103 : decode cX11_ofCrease 103 = .ok (.invokevirtual 66, 3) := by decide +kernel
theorem dX11_ofCrease_106 : decode cX11_ofCrease 106 = .ok (.ireturn, 1) := by decide +kernel
theorem dX11_ofCrease_107 : decode cX11_ofCrease 107 = .ok (.aload_n 0, 1) := by decide +kernel
theorem dX11_ofCrease_108 : decode cX11_ofCrease 108 = .ok (.iload_n 1, 1) := by decide +kernel
theorem dX11_ofCrease_109 : decode cX11_ofCrease 109 = .ok (.invokevirtual 321, 3) := by decide +kernel
theorem dX11_ofCrease_112 : decode cX11_ofCrease 112 = .ok (.ireturn, 1) := by decide +kernel
theorem dX11_ofCrease_113 : decode cX11_ofCrease 113 = .ok (.aload_n 0, 1) := by decide +kernel
theorem dX11_ofCrease_114 : decode cX11_ofCrease 114 = .ok (.iload_n 1, 1) := by decide +kernel
theorem dX11_ofCrease_115 : decode cX11_ofCrease 115 = .ok (.invokevirtual 324, 3) := by decide +kernel
theorem dX11_ofCrease_118 : decode cX11_ofCrease 118 = .ok (.ireturn, 1) := by decide +kernel
theorem dX11_ofCrease_119 : decode cX11_ofCrease 119 = .ok (.aload_n 0, 1) := by decide +kernel
theorem dX11_ofCrease_120 : decode cX11_ofCrease 120 = .ok (.aload_n 0, 1) := by decide +kernel
theorem dX11_ofCrease_121 : decode cX11_ofCrease 121 = .ok (.getfield 7, 3) := by decide +kernel
theorem dX11_ofCrease_124 : decode cX11_ofCrease 124 = .ok (.iconst 2, 1) := by decide +kernel
theorem dX11_ofCrease_125 : decode cX11_ofCrease 125 = .ok (.iaload, 1) := by decide +kernel
theorem dX11_ofCrease_126 : decode cX11_ofCrease 126 = .ok (.iload_n 1, 1) := by decide +kernel
theorem dX11_ofCrease_127 : decode cX11_ofCrease 127 = .ok (.invokevirtual 333, 3) := by decide +kernel
theorem dX11_ofCrease_130 : decode cX11_ofCrease 130 = .ok (.ireturn, 1) := by decide +kernel
theorem dX11_ofCrease_131 : decode cX11_ofCrease 131 = .ok (.sipush (-1000), 3) := by decide +kernel
theorem dX11_ofCrease_134 : decode cX11_ofCrease 134 = .ok (.ireturn, 1) := by decide +kernel
theorem dX11_is_0 : decode cX11_is 0 = .ok (.iload_n 1, 1) := by decide +kernel
theorem dX11_is_1 : decode cX11_is 1 = .ok (.tableswitch 63 0 3 #[31, 39, 47, 55], 31) := by decide +kernel
theorem dX11_is_32 : decode cX11_is 32 = .ok (.aload_n 0, 1) := by decide +kernel
theorem dX11_is_33 : decode cX11_is 33 = .ok (.getfield 7, 3) := by decide +kernel
theorem dX11_is_36 : decode cX11_is 36 = .ok (.bipush 10, 2) := by decide +kernel
theorem dX11_is_38 : decode cX11_is 38 = .ok (.iaload, 1) := by decide +kernel
theorem dX11_is_39 : decode cX11_is 39 = .ok (.ireturn, 1) := by decide +kernel
theorem dX11_is_40 : decode cX11_is 40 = .ok (.aload_n 0, 1) := by decide +kernel
theorem dX11_is_41 : decode cX11_is 41 = .ok (.getfield 7, 3) := by decide +kernel
theorem dX11_is_44 : decode cX11_is 44 = .ok (.bipush 13, 2) := by decide +kernel
theorem dX11_is_46 : decode cX11_is 46 = .ok (.iaload, 1) := by decide +kernel
theorem dX11_is_47 : decode cX11_is 47 = .ok (.ireturn, 1) := by decide +kernel
theorem dX11_is_48 : decode cX11_is 48 = .ok (.aload_n 0, 1) := by decide +kernel
theorem dX11_is_49 : decode cX11_is 49 = .ok (.getfield 7, 3) := by decide +kernel
theorem dX11_is_52 : decode cX11_is 52 = .ok (.bipush 11, 2) := by decide +kernel
theorem dX11_is_54 : decode cX11_is 54 = .ok (.iaload, 1) := by decide +kernel
theorem dX11_is_55 : decode cX11_is 55 = .ok (.ireturn, 1) := by decide +kernel
theorem dX11_is_56 : decode cX11_is 56 = .ok (.aload_n 0, 1) := by decide +kernel
theorem dX11_is_57 : decode cX11_is 57 = .ok (.getfield 7, 3) := by decide +kernel
theorem dX11_is_60 : decode cX11_is 60 = .ok (.bipush 14, 2) := by decide +kernel
theorem dX11_is_62 : decode cX11_is 62 = .ok (.iaload, 1) := by decide +kernel
theorem dX11_is_63 : decode cX11_is 63 = .ok (.ireturn, 1) := by decide +kernel
theorem dX11_is_64 : decode cX11_is 64 = .ok (.bipush (-2), 2) := by decide +kernel
theorem dX11_is_66 : decode cX11_is 66 = .ok (.ireturn, 1) := by decide +kernel
theorem dX11_entry_0 : decode cX11_entry 0 = .ok (.iload_n 2, 1) := by decide +kernel
theorem dX11_entry_1 : decode cX11_entry 1 = .ok (.ifCond .ne 19, 3) := by decide +kernel
theorem dX11_entry_4 : decode cX11_entry 4 = .ok (.aload_n 0, 1) := by decide +kernel
theorem dX11_entry_5 : decode cX11_entry 5 = .ok (.getfield 7, 3) := by decide +kernel
theorem dX11_entry_8 : decode cX11_entry 8 = .ok (.sipush 2112, 3) := by decide +kernel
theorem dX11_entry_11 : decode cX11_entry 11 = .ok (.iload_n 1, 1) := by decide +kernel
theorem dX11_entry_12 : decode cX11_entry 12 = .ok (.iadd, 1) := by decide +kernel
theorem dX11_entry_13 : decode cX11_entry 13 = .ok (.iaload, 1) := by decide +kernel
theorem dX11_entry_14 : decode cX11_entry 14 = .ok (.bipush 64, 2) := by decide +kernel
theorem dX11_entry_16 : decode cX11_entry 16 = .ok (.idiv, 1) := by decide +kernel
theorem dX11_entry_17 : decode cX11_entry 17 = .ok (.goto 38, 3) := by decide +kernel
theorem dX11_entry_20 : decode cX11_entry 20 = .ok (.iload_n 2, 1) := by decide +kernel
theorem dX11_entry_21 : decode cX11_entry 21 = .ok (.iconst 1, 1) := by decide +kernel
theorem dX11_entry_22 : decode cX11_entry 22 = .ok (.if_icmp .ne 21, 3) := by decide +kernel
theorem dX11_entry_25 : decode cX11_entry 25 = .ok (.aload_n 0, 1) := by decide +kernel
theorem dX11_entry_26 : decode cX11_entry 26 = .ok (.getfield 7, 3) := by decide +kernel
theorem dX11_entry_29 : decode cX11_entry 29 = .ok (.sipush 2112, 3) := by decide +kernel
theorem dX11_entry_32 : decode cX11_entry 32 = .ok (.iload_n 1, 1) := by decide +kernel
theorem dX11_entry_33 : decode cX11_entry 33 = .ok (.iadd, 1) := by decide +kernel
theorem dX11_entry_34 : decode cX11_entry 34 = .ok (.iaload, 1) := by decide +kernel
theorem dX11_entry_35 : decode cX11_entry 35 = .ok (.iconst 4, 1) := by decide +kernel
theorem dX11_entry_36 : decode cX11_entry 36 = .ok (.idiv, 1) := by decide +kernel
theorem dX11_entry_37 : decode cX11_entry 37 = .ok (.bipush 16, 2) := by decide +kernel
theorem dX11_entry_39 : decode cX11_entry 39 = .ok (.irem, 1) := by decide +kernel
theorem dX11_entry_40 : decode cX11_entry 40 = .ok (.goto 15, 3) := by decide +kernel
theorem dX11_entry_43 : decode cX11_entry 43 = .ok (.aload_n 0, 1) := by decide +kernel
theorem dX11_entry_44 : decode cX11_entry 44 = .ok (.getfield 7, 3) := by decide +kernel
theorem dX11_entry_47 : decode cX11_entry 47 = .ok (.sipush 2112, 3) := by decide +kernel
theorem dX11_entry_50 : decode cX11_entry 50 = .ok (.iload_n 1, 1) := by decide +kernel
theorem dX11_entry_51 : decode cX11_entry 51 = .ok (.iadd, 1) := by decide +kernel
theorem dX11_entry_52 : decode cX11_entry 52 = .ok (.iaload, 1) := by decide +kernel
theorem dX11_entry_53 : decode cX11_entry 53 = .ok (.iconst 4, 1) := by decide +kernel
theorem dX11_entry_54 : decode cX11_entry 54 = .ok (.irem, 1) := by decide +kernel
theorem dX11_entry_55 : decode cX11_entry 55 = .ok (.ireturn, 1) := by decide +kernel
theorem dX11_book_0 : decode cX11_book 0 = .ok (.iload_n 1, 1) := by decide +kernel
theorem dX11_book_1 : decode cX11_book 1 = .ok (.iconst (-1), 1) := by decide +kernel
theorem dX11_book_2 : decode cX11_book 2 = .ok (.if_icmp .ne 11, 3) := by decide +kernel
theorem dX11_book_5 : decode cX11_book 5 = .ok (.aload_n 0, 1) := by decide +kernel
theorem dX11_book_6 : decode cX11_book 6 = .ok (.getfield 7, 3) := by decide +kernel
theorem dX11_book_9 : decode cX11_book 9 = .ok (.bipush 12, 2) := by decide +kernel
theorem dX11_book_11 : decode cX11_book 11 = .ok (.iaload, 1) := by decide +kernel
theorem dX11_book_12 : decode cX11_book 12 = .ok (.ireturn, 1) := by decide +kernel
theorem dX11_book_13 : decode cX11_book 13 = .ok (.iload_n 1, 1) := by decide +kernel
theorem dX11_book_14 : decode cX11_book 14 = .ok (.iconst 0, 1) := by decide +kernel
theorem dX11_book_15 : decode cX11_book 15 = .ok (.aload_n 0, 1) := by decide +kernel
theorem dX11_book_16 : decode cX11_book 16 = .ok (.getfield 7, 3) := by decide +kernel
theorem dX11_book_19 : decode cX11_book 19 = .ok (.bipush 12, 2) := by decide +kernel
theorem dX11_book_21 : decode cX11_book 21 = .ok (.iaload, 1) := by decide +kernel
theorem dX11_book_22 : decode cX11_book 22 = .ok (.iconst 1, 1) := by decide +kernel
theorem dX11_book_23 : decode cX11_book 23 = .ok (.isub, 1) := by decide +kernel
theorem dX11_book_24 : decode cX11_book 24 = .ok (.invokestatic 62, 3) := by decide +kernel
theorem dX11_book_27 : decode cX11_book 27 = .ok (.ifCond .eq 21, 3) := by decide +kernel
theorem dX11_book_30 : decode cX11_book 30 = .ok (.iload_n 2, 1) := by decide +kernel
theorem dX11_book_31 : decode cX11_book 31 = .ok (.iconst 0, 1) := by decide +kernel
theorem dX11_book_32 : decode cX11_book 32 = .ok (.iconst 2, 1) := by decide +kernel
theorem dX11_book_33 : decode cX11_book 33 = .ok (.invokestatic 62, 3) := by decide +kernel
theorem dX11_book_36 : decode cX11_book 36 = .ok (.ifCond .eq 12, 3) := by decide +kernel
theorem dX11_book_39 : decode cX11_book 39 = .ok (.aload_n 0, 1) := by decide +kernel
theorem dX11_book_40 : decode cX11_book 40 = .ok (.iload_n 1, 1) := by decide +kernel
theorem dX11_book_41 : decode cX11_book 41 = .ok (.iload_n 2, 1) := by decide +kernel
theorem dX11_book_42 : decode cX11_book 42 = .ok (.invokevirtual 396, 3) := by decide +kernel
theorem dX11_book_45 : decode cX11_book 45 = .ok (.goto 5, 3) := by decide +kernel
theorem dX11_book_48 : decode cX11_book 48 = .ok (.bipush (-2), 2) := by decide +kernel
theorem dX11_book_50 : decode cX11_book 50 = .ok (.ireturn, 1) := by decide +kernel
theorem dX11_befell_0 : decode cX11_befell 0 = .ok (.iload_n 1, 1) := by decide +kernel
theorem dX11_befell_1 : decode cX11_befell 1 = .ok (.iconst (-1), 1) := by decide +kernel
theorem dX11_befell_2 : decode cX11_befell 2 = .ok (.if_icmp .eq 11, 3) := by decide +kernel
theorem dX11_befell_5 : decode cX11_befell 5 = .ok (.aload_n 0, 1) := by decide +kernel
theorem dX11_befell_6 : decode cX11_befell 6 = .ok (.iload_n 1, 1) := by decide +kernel
theorem dX11_befell_7 : decode cX11_befell 7 = .ok (.invokevirtual 81, 3) := by decide +kernel
theorem dX11_befell_10 : decode cX11_befell 10 = .ok (.ifCond .eq 12, 3) := by decide +kernel
theorem dX11_befell_13 : decode cX11_befell 13 = .ok (.iload_n 2, 1) := by decide +kernel
theorem dX11_befell_14 : decode cX11_befell 14 = .ok (.iconst 0, 1) := by decide +kernel
theorem dX11_befell_15 : decode cX11_befell 15 = .ok (.iconst 2, 1) := by decide +kernel
theorem dX11_befell_16 : decode cX11_befell 16 = .ok (.invokestatic 62, 3) := by decide +kernel
theorem dX11_befell_19 : decode cX11_befell 19 = .ok (.ifCond .ne 6, 3) := by decide +kernel
theorem dX11_befell_22 : decode cX11_befell 22 = .ok (.bipush (-2), 2) := by decide +kernel
theorem dX11_befell_24 : decode cX11_befell 24 = .ok (.ireturn, 1) := by decide +kernel
theorem dX11_befell_25 : decode cX11_befell 25 = .ok (.iconst 0, 1) := by decide +kernel
theorem dX11_befell_26 : decode cX11_befell 26 = .ok (.istore_n 3, 1) := by decide +kernel
theorem dX11_befell_27 : decode cX11_befell 27 = .ok (.iconst 0, 1) := by decide +kernel
theorem dX11_befell_28 : decode cX11_befell 28 = .ok (.istore 4, 2) := by decide +kernel
theorem dX11_befell_30 : decode cX11_befell 30 = .ok (.iload 4, 2) := by decide +kernel
theorem dX11_befell_32 : decode cX11_befell 32 = .ok (.aload_n 0, 1) := by decide +kernel
theorem dX11_befell_33 : decode cX11_befell 33 = .ok (.getfield 7, 3) := by decide +kernel
theorem dX11_befell_36 : decode cX11_befell 36 = .ok (.bipush 12, 2) := by decide +kernel
theorem dX11_befell_38 : decode cX11_befell 38 = .ok (.iaload, 1) := by decide +kernel
theorem dX11_befell_39 : decode cX11_befell 39 = .ok (.if_icmp .ge 44, 3) := by decide +kernel
theorem dX11_befell_42 : decode cX11_befell 42 = .ok (.iload_n 3, 1) := by decide +kernel
theorem dX11_befell_43 : decode cX11_befell 43 = .ok (.aload_n 0, 1) := by decide +kernel
theorem dX11_befell_44 : decode cX11_befell 44 = .ok (.iload 4, 2) := by decide +kernel
theorem dX11_befell_46 : decode cX11_befell 46 = .ok (.iconst 2, 1) := by decide +kernel
theorem dX11_befell_47 : decode cX11_befell 47 = .ok (.invokevirtual 396, 3) := by decide +kernel
theorem dX11_befell_50 : decode cX11_befell 50 = .ok (.iload_n 2, 1) := by decide +kernel
theorem dX11_befell_51 : decode cX11_befell 51 = .ok (.if_icmp .ne 23, 3) := by decide +kernel
theorem dX11_befell_54 : decode cX11_befell 54 = .ok (.iload_n 1, 1) := by decide +kernel
theorem dX11_befell_55 : decode cX11_befell 55 = .ok (.iconst (-1), 1) := by decide +kernel
theorem dX11_befell_56 : decode cX11_befell 56 = .ok (.if_icmp .eq 14, 3) := by decide +kernel
theorem dX11_befell_59 : decode cX11_befell 59 = .ok (.aload_n 0, 1) := by decide +kernel
theorem dX11_befell_60 : decode cX11_befell 60 = .ok (.iload 4, 2) := by decide +kernel
theorem dX11_befell_62 : decode cX11_befell 62 = .ok (.iconst 1, 1) := by decide +kernel
theorem dX11_befell_63 : decode cX11_befell 63 = .ok (.invokevirtual 396, 3) := by decide +kernel
theorem dX11_befell_66 : decode cX11_befell 66 = .ok (.iload_n 1, 1) := by decide +kernel
theorem dX11_befell_67 : decode cX11_befell 67 = .ok (.if_icmp .ne 7, 3) := by decide +kernel
theorem dX11_befell_70 : decode cX11_befell 70 = .ok (.iconst 1, 1) := by decide +kernel
theorem dX11_befell_71 : decode cX11_befell 71 = .ok (.goto 4, 3) := by decide +kernel
theorem dX11_befell_74 : decode cX11_befell 74 = .ok (.iconst 0, 1) := by decide +kernel
theorem dX11_befell_75 : decode cX11_befell 75 = .ok (.iadd, 1) := by decide +kernel
theorem dX11_befell_76 : decode cX11_befell 76 = .ok (.istore_n 3, 1) := by decide +kernel
theorem dX11_befell_77 : decode cX11_befell 77 = .ok (.iinc 4 1, 3) := by decide +kernel
theorem dX11_befell_80 : decode cX11_befell 80 = .ok (.goto (-50), 3) := by decide +kernel
theorem dX11_befell_83 : decode cX11_befell 83 = .ok (.iload_n 3, 1) := by decide +kernel
theorem dX11_befell_84 : decode cX11_befell 84 = .ok (.ireturn, 1) := by decide +kernel
theorem dX11_hanging_0 : decode cX11_hanging 0 = .ok (.aload_n 0, 1) := by decide +kernel
theorem dX11_hanging_1 : decode cX11_hanging 1 = .ok (.iload_n 1, 1) := by decide +kernel
theorem dX11_hanging_2 : decode cX11_hanging 2 = .ok (.invokevirtual 81, 3) := by decide +kernel
theorem dX11_hanging_5 : decode cX11_hanging 5 = .ok (.ifCond .eq 11, 3) := by decide +kernel
theorem dX11_hanging_8 : decode cX11_hanging 8 = .ok (.aload_n 0, 1) := by decide +kernel
theorem dX11_hanging_9 : decode cX11_hanging 9 = .ok (.iload_n 1, 1) := by decide +kernel
theorem dX11_hanging_10 : decode cX11_hanging 10 = .ok (.invokevirtual 299, 3) := by decide +kernel
theorem dX11_hanging_13 : decode cX11_hanging 13 = .ok (.goto 4, 3) := by decide +kernel
theorem dX11_hanging_16 : decode cX11_hanging 16 = .ok (.iconst (-1), 1) := by decide +kernel
theorem dX11_hanging_17 : decode cX11_hanging 17 = .ok (.ireturn, 1) := by decide +kernel
theorem dX11_eldest_0 : decode cX11_eldest 0 = .ok (.aload_n 0, 1) := by decide +kernel
theorem dX11_eldest_1 : decode cX11_eldest 1 = .ok (.iload_n 1, 1) := by decide +kernel
theorem dX11_eldest_2 : decode cX11_eldest 2 = .ok (.invokevirtual 74, 3) := by decide +kernel
theorem dX11_eldest_5 : decode cX11_eldest 5 = .ok (.ifCond .ne 5, 3) := by decide +kernel
theorem dX11_eldest_8 : decode cX11_eldest 8 = .ok (.iconst (-1), 1) := by decide +kernel
theorem dX11_eldest_9 : decode cX11_eldest 9 = .ok (.ireturn, 1) := by decide +kernel
theorem dX11_eldest_10 : decode cX11_eldest 10 = .ok (.iconst (-1), 1) := by decide +kernel
theorem dX11_eldest_11 : decode cX11_eldest 11 = .ok (.istore_n 2, 1) := by decide +kernel
theorem dX11_eldest_12 : decode cX11_eldest 12 = .ok (.iconst 0, 1) := by decide +kernel
theorem dX11_eldest_13 : decode cX11_eldest 13 = .ok (.istore_n 3, 1) := by decide +kernel
theorem dX11_eldest_14 : decode cX11_eldest 14 = .ok (.iload_n 3, 1) := by decide +kernel
theorem dX11_eldest_15 : decode cX11_eldest 15 = .ok (.aload_n 0, 1) := by decide +kernel
theorem dX11_eldest_16 : decode cX11_eldest 16 = .ok (.getfield 7, 3) := by decide +kernel
theorem dX11_eldest_19 : decode cX11_eldest 19 = .ok (.bipush 14, 2) := by decide +kernel
theorem dX11_eldest_21 : decode cX11_eldest 21 = .ok (.iaload, 1) := by decide +kernel
theorem dX11_eldest_22 : decode cX11_eldest 22 = .ok (.if_icmp .ge 49, 3) := by decide +kernel
theorem dX11_eldest_25 : decode cX11_eldest 25 = .ok (.aload_n 0, 1) := by decide +kernel
theorem dX11_eldest_26 : decode cX11_eldest 26 = .ok (.iload_n 3, 1) := by decide +kernel
theorem dX11_eldest_27 : decode cX11_eldest 27 = .ok (.iconst 2, 1) := by decide +kernel
theorem dX11_eldest_28 : decode cX11_eldest 28 = .ok (.invokevirtual 66, 3) := by decide +kernel
theorem dX11_eldest_31 : decode cX11_eldest 31 = .ok (.iload_n 1, 1) := by decide +kernel
theorem dX11_eldest_32 : decode cX11_eldest 32 = .ok (.if_icmp .ne 33, 3) := by decide +kernel
theorem dX11_eldest_35 : decode cX11_eldest 35 = .ok (.aload_n 0, 1) := by decide +kernel
theorem dX11_eldest_36 : decode cX11_eldest 36 = .ok (.iload_n 3, 1) := by decide +kernel
theorem dX11_eldest_37 : decode cX11_eldest 37 = .ok (.invokevirtual 70, 3) := by decide +kernel
theorem dX11_eldest_40 : decode cX11_eldest 40 = .ok (.ifCond .eq 25, 3) := by decide +kernel
theorem dX11_eldest_43 : decode cX11_eldest 43 = .ok (.iload_n 2, 1) := by decide +kernel
theorem dX11_eldest_44 : decode cX11_eldest 44 = .ok (.iconst (-1), 1) := by decide +kernel
theorem dX11_eldest_45 : decode cX11_eldest 45 = .ok (.if_icmp .eq 18, 3) := by decide +kernel
theorem dX11_eldest_48 : decode cX11_eldest 48 = .ok (.aload_n 0, 1) := by decide +kernel
theorem dX11_eldest_49 : decode cX11_eldest 49 = .ok (.iload_n 3, 1) := by decide +kernel
theorem dX11_eldest_50 : decode cX11_eldest 50 = .ok (.iconst 3, 1) := by decide +kernel
theorem dX11_eldest_51 : decode cX11_eldest 51 = .ok (.invokevirtual 66, 3) := by decide +kernel
theorem dX11_eldest_54 : decode cX11_eldest 54 = .ok (.aload_n 0, 1) := by decide +kernel
theorem dX11_eldest_55 : decode cX11_eldest 55 = .ok (.iload_n 2, 1) := by decide +kernel
theorem dX11_eldest_56 : decode cX11_eldest 56 = .ok (.iconst 3, 1) := by decide +kernel
theorem dX11_eldest_57 : decode cX11_eldest 57 = .ok (.invokevirtual 66, 3) := by decide +kernel
theorem dX11_eldest_60 : decode cX11_eldest 60 = .ok (.if_icmp .ge 5, 3) := by decide +kernel
theorem dX11_eldest_63 : decode cX11_eldest 63 = .ok (.iload_n 3, 1) := by decide +kernel
theorem dX11_eldest_64 : decode cX11_eldest 64 = .ok (.istore_n 2, 1) := by decide +kernel
theorem dX11_eldest_65 : decode cX11_eldest 65 = .ok (.iinc 3 1, 3) := by decide +kernel
theorem dX11_eldest_68 : decode cX11_eldest 68 = .ok (.goto (-54), 3) := by decide +kernel
theorem dX11_eldest_71 : decode cX11_eldest 71 = .ok (.iload_n 2, 1) := by decide +kernel
theorem dX11_eldest_72 : decode cX11_eldest 72 = .ok (.ireturn, 1) := by decide +kernel
theorem dX11_blank_0 : decode cX11_blank 0 = .ok (.iconst 0, 1) := by decide +kernel
theorem dX11_blank_1 : decode cX11_blank 1 = .ok (.istore_n 1, 1) := by decide +kernel
theorem dX11_blank_2 : decode cX11_blank 2 = .ok (.iconst 0, 1) := by decide +kernel
theorem dX11_blank_3 : decode cX11_blank 3 = .ok (.istore_n 2, 1) := by decide +kernel
theorem dX11_blank_4 : decode cX11_blank 4 = .ok (.iload_n 2, 1) := by decide +kernel
theorem dX11_blank_5 : decode cX11_blank 5 = .ok (.aload_n 0, 1) := by decide +kernel
theorem dX11_blank_6 : decode cX11_blank 6 = .ok (.getfield 7, 3) := by decide +kernel
theorem dX11_blank_9 : decode cX11_blank 9 = .ok (.iconst 0, 1) := by decide +kernel
theorem dX11_blank_10 : decode cX11_blank 10 = .ok (.iaload, 1) := by decide +kernel
theorem dX11_blank_11 : decode cX11_blank 11 = .ok (.if_icmp .ge 32, 3) := by decide +kernel
theorem dX11_blank_14 : decode cX11_blank 14 = .ok (.iload_n 1, 1) := by decide +kernel
theorem dX11_blank_15 : decode cX11_blank 15 = .ok (.aload_n 0, 1) := by decide +kernel
theorem dX11_blank_16 : decode cX11_blank 16 = .ok (.iload_n 2, 1) := by decide +kernel
theorem dX11_blank_17 : decode cX11_blank 17 = .ok (.invokevirtual 387, 3) := by decide +kernel
theorem dX11_blank_20 : decode cX11_blank 20 = .ok (.aload_n 0, 1) := by decide +kernel
theorem dX11_blank_21 : decode cX11_blank 21 = .ok (.invokevirtual 336, 3) := by decide +kernel
theorem dX11_blank_24 : decode cX11_blank 24 = .ok (.iand, 1) := by decide +kernel
theorem dX11_blank_25 : decode cX11_blank 25 = .ok (.ifCond .ne 9, 3) := by decide +kernel
theorem dX11_blank_28 : decode cX11_blank 28 = .ok (.iconst 1, 1) := by decide +kernel
theorem dX11_blank_29 : decode cX11_blank 29 = .ok (.iload_n 2, 1) := by decide +kernel
theorem dX11_blank_30 : decode cX11_blank 30 = .ok (.ishl, 1) := by decide +kernel
theorem dX11_blank_31 : decode cX11_blank 31 = .ok (.goto 4, 3) := by decide +kernel
theorem dX11_blank_34 : decode cX11_blank 34 = .ok (.iconst 0, 1) := by decide +kernel
theorem dX11_blank_35 : decode cX11_blank 35 = .ok (.ior, 1) := by decide +kernel
theorem dX11_blank_36 : decode cX11_blank 36 = .ok (.istore_n 1, 1) := by decide +kernel
theorem dX11_blank_37 : decode cX11_blank 37 = .ok (.iinc 2 1, 3) := by decide +kernel
theorem dX11_blank_40 : decode cX11_blank 40 = .ok (.goto (-36), 3) := by decide +kernel
theorem dX11_blank_43 : decode cX11_blank 43 = .ok (.iload_n 1, 1) := by decide +kernel
theorem dX11_blank_44 : decode cX11_blank 44 = .ok (.ireturn, 1) := by decide +kernel
theorem dX11_tensOf_0 : decode cX11_tensOf 0 = .ok (.iconst 0, 1) := by decide +kernel
theorem dX11_tensOf_1 : decode cX11_tensOf 1 = .ok (.istore_n 2, 1) := by decide +kernel
theorem dX11_tensOf_2 : decode cX11_tensOf 2 = .ok (.iconst 0, 1) := by decide +kernel
theorem dX11_tensOf_3 : decode cX11_tensOf 3 = .ok (.istore_n 3, 1) := by decide +kernel
theorem dX11_tensOf_4 : decode cX11_tensOf 4 = .ok (.iload_n 3, 1) := by decide +kernel
theorem dX11_tensOf_5 : decode cX11_tensOf 5 = .ok (.aload_n 0, 1) := by decide +kernel
theorem dX11_tensOf_6 : decode cX11_tensOf 6 = .ok (.getfield 7, 3) := by decide +kernel
theorem dX11_tensOf_9 : decode cX11_tensOf 9 = .ok (.bipush 14, 2) := by decide +kernel
theorem dX11_tensOf_11 : decode cX11_tensOf 11 = .ok (.iaload, 1) := by decide +kernel
theorem dX11_tensOf_12 : decode cX11_tensOf 12 = .ok (.if_icmp .ge 45, 3) := by decide +kernel
theorem dX11_tensOf_15 : decode cX11_tensOf 15 = .ok (.iload_n 2, 1) := by decide +kernel
theorem dX11_tensOf_16 : decode cX11_tensOf 16 = .ok (.aload_n 0, 1) := by decide +kernel
theorem dX11_tensOf_17 : decode cX11_tensOf 17 = .ok (.iload_n 3, 1) := by decide +kernel
theorem dX11_tensOf_18 : decode cX11_tensOf 18 = .ok (.iconst 2, 1) := by decide +kernel
theorem dX11_tensOf_19 : decode cX11_tensOf 19 = .ok (.invokevirtual 66, 3) := by decide +kernel
theorem dX11_tensOf_22 : decode cX11_tensOf 22 = .ok (.iload_n 1, 1) := by decide +kernel
theorem dX11_tensOf_23 : decode cX11_tensOf 23 = .ok (.if_icmp .ne 25, 3) := by decide +kernel
theorem dX11_tensOf_26 : decode cX11_tensOf 26 = .ok (.aload_n 0, 1) := by decide +kernel
theorem dX11_tensOf_27 : decode cX11_tensOf 27 = .ok (.iload_n 3, 1) := by decide +kernel
theorem dX11_tensOf_28 : decode cX11_tensOf 28 = .ok (.invokevirtual 70, 3) := by decide +kernel
theorem dX11_tensOf_31 : decode cX11_tensOf 31 = .ok (.ifCond .eq 17, 3) := by decide +kernel
theorem dX11_tensOf_34 : decode cX11_tensOf 34 = .ok (.iconst 1, 1) := by decide +kernel
theorem dX11_tensOf_35 : decode cX11_tensOf 35 = .ok (.aload_n 0, 1) := by decide +kernel
theorem dX11_tensOf_36 : decode cX11_tensOf 36 = .ok (.iload_n 3, 1) := by decide +kernel
theorem dX11_tensOf_37 : decode cX11_tensOf 37 = .ok (.iconst 3, 1) := by decide +kernel
theorem dX11_tensOf_38 : decode cX11_tensOf 38 = .ok (.invokevirtual 66, 3) := by decide +kernel
theorem dX11_tensOf_41 : decode cX11_tensOf 41 = .ok (.bipush 10, 2) := by decide +kernel
theorem dX11_tensOf_43 : decode cX11_tensOf 43 = .ok (.idiv, 1) := by decide +kernel
theorem dX11_tensOf_44 : decode cX11_tensOf 44 = .ok (.ishl, 1) := by decide +kernel
theorem dX11_tensOf_45 : decode cX11_tensOf 45 = .ok (.goto 4, 3) := by decide +kernel
theorem dX11_tensOf_48 : decode cX11_tensOf 48 = .ok (.iconst 0, 1) := by decide +kernel
theorem dX11_tensOf_49 : decode cX11_tensOf 49 = .ok (.ior, 1) := by decide +kernel
theorem dX11_tensOf_50 : decode cX11_tensOf 50 = .ok (.istore_n 2, 1) := by decide +kernel
theorem dX11_tensOf_51 : decode cX11_tensOf 51 = .ok (.iinc 3 1, 3) := by decide +kernel
theorem dX11_tensOf_54 : decode cX11_tensOf 54 = .ok (.goto (-50), 3) := by decide +kernel
theorem dX11_tensOf_57 : decode cX11_tensOf 57 = .ok (.iload_n 2, 1) := by decide +kernel
theorem dX11_tensOf_58 : decode cX11_tensOf 58 = .ok (.ireturn, 1) := by decide +kernel
theorem dX11_shared_0 : decode cX11_shared 0 = .ok (.aload_n 0, 1) := by decide +kernel
theorem dX11_shared_1 : decode cX11_shared 1 = .ok (.iload_n 1, 1) := by decide +kernel
theorem dX11_shared_2 : decode cX11_shared 2 = .ok (.invokevirtual 74, 3) := by decide +kernel
theorem dX11_shared_5 : decode cX11_shared 5 = .ok (.ifCond .eq 30, 3) := by decide +kernel
theorem dX11_shared_8 : decode cX11_shared 8 = .ok (.aload_n 0, 1) := by decide +kernel
theorem dX11_shared_9 : decode cX11_shared 9 = .ok (.iload_n 2, 1) := by decide +kernel
theorem dX11_shared_10 : decode cX11_shared 10 = .ok (.invokevirtual 74, 3) := by decide +kernel
theorem dX11_shared_13 : decode cX11_shared 13 = .ok (.ifCond .eq 22, 3) := by decide +kernel
theorem dX11_shared_16 : decode cX11_shared 16 = .ok (.iload_n 1, 1) := by decide +kernel
theorem dX11_shared_17 : decode cX11_shared 17 = .ok (.iload_n 2, 1) := by decide +kernel
theorem dX11_shared_18 : decode cX11_shared 18 = .ok (.if_icmp .eq 17, 3) := by decide +kernel
theorem dX11_shared_21 : decode cX11_shared 21 = .ok (.aload_n 0, 1) := by decide +kernel
theorem dX11_shared_22 : decode cX11_shared 22 = .ok (.iload_n 1, 1) := by decide +kernel
theorem dX11_shared_23 : decode cX11_shared 23 = .ok (.invokevirtual 399, 3) := by decide +kernel
theorem dX11_shared_26 : decode cX11_shared 26 = .ok (.aload_n 0, 1) := by decide +kernel
theorem dX11_shared_27 : decode cX11_shared 27 = .ok (.iload_n 2, 1) := by decide +kernel
theorem dX11_shared_28 : decode cX11_shared 28 = .ok (.invokevirtual 399, 3) := by decide +kernel
theorem dX11_shared_31 : decode cX11_shared 31 = .ok (.iand, 1) := by decide +kernel
theorem dX11_shared_32 : decode cX11_shared 32 = .ok (.goto 4, 3) := by decide +kernel
theorem dX11_shared_35 : decode cX11_shared 35 = .ok (.iconst (-1), 1) := by decide +kernel
theorem dX11_shared_36 : decode cX11_shared 36 = .ok (.ireturn, 1) := by decide +kernel
theorem dX11_foretold_0 : decode cX11_foretold 0 = .ok (.iload_n 1, 1) := by decide +kernel
theorem dX11_foretold_1 : decode cX11_foretold 1 = .ok (.iconst 1, 1) := by decide +kernel
theorem dX11_foretold_2 : decode cX11_foretold 2 = .ok (.bipush 60, 2) := by decide +kernel
theorem dX11_foretold_4 : decode cX11_foretold 4 = .ok (.invokestatic 62, 3) := by decide +kernel
theorem dX11_foretold_7 : decode cX11_foretold 7 = .ok (.ifCond .eq 11, 3) := by decide +kernel
theorem dX11_foretold_10 : decode cX11_foretold 10 = .ok (.aload_n 0, 1) := by decide +kernel
theorem dX11_foretold_11 : decode cX11_foretold 11 = .ok (.iload_n 2, 1) := by decide +kernel
theorem dX11_foretold_12 : decode cX11_foretold 12 = .ok (.invokevirtual 81, 3) := by decide +kernel
theorem dX11_foretold_15 : decode cX11_foretold 15 = .ok (.ifCond .ne 5, 3) := by decide +kernel
theorem dX11_foretold_18 : decode cX11_foretold 18 = .ok (.iconst (-1), 1) := by decide +kernel
theorem dX11_foretold_19 : decode cX11_foretold 19 = .ok (.ireturn, 1) := by decide +kernel
theorem dX11_foretold_20 : decode cX11_foretold 20 = .ok (.aload_n 0, 1) := by decide +kernel
theorem dX11_foretold_21 : decode cX11_foretold 21 = .ok (.iload_n 2, 1) := by decide +kernel
theorem dX11_foretold_22 : decode cX11_foretold 22 = .ok (.iconst 0, 1) := by decide +kernel
theorem dX11_foretold_23 : decode cX11_foretold 23 = .ok (.invokevirtual 66, 3) := by decide +kernel
theorem dX11_foretold_26 : decode cX11_foretold 26 = .ok (.istore_n 3, 1) := by decide +kernel
theorem dX11_foretold_27 : decode cX11_foretold 27 = .ok (.aload_n 0, 1) := by decide +kernel
theorem dX11_foretold_28 : decode cX11_foretold 28 = .ok (.getfield 7, 3) := by decide +kernel
theorem dX11_foretold_31 : decode cX11_foretold 31 = .ok (.bipush 10, 2) := by decide +kernel
theorem dX11_foretold_33 : decode cX11_foretold 33 = .ok (.iaload, 1) := by decide +kernel
theorem dX11_foretold_34 : decode cX11_foretold 34 = .ok (.istore 4, 2) := by decide +kernel
theorem dX11_foretold_36 : decode cX11_foretold 36 = .ok (.iload 4, 2) := by decide +kernel
theorem dX11_foretold_38 : decode cX11_foretold 38 = .ok (.aload_n 0, 1) := by decide +kernel
theorem dX11_foretold_39 : decode cX11_foretold 39 = .ok (.getfield 7, 3) := by decide +kernel
theorem dX11_foretold_42 : decode cX11_foretold 42 = .ok (.bipush 10, 2) := by decide +kernel
theorem dX11_foretold_44 : decode cX11_foretold 44 = .ok (.iaload, 1) := by decide +kernel
theorem dX11_foretold_45 : decode cX11_foretold 45 = .ok (.iload_n 1, 1) := by decide +kernel
theorem dX11_foretold_46 : decode cX11_foretold 46 = .ok (.iadd, 1) := by decide +kernel
theorem dX11_foretold_47 : decode cX11_foretold 47 = .ok (.if_icmp .ge 53, 3) := by decide +kernel
theorem dX11_foretold_50 : decode cX11_foretold 50 = .ok (.iload 4, 2) := by decide +kernel
theorem dX11_foretold_52 : decode cX11_foretold 52 = .ok (.sipush 9999, 3) := by decide +kernel
theorem dX11_foretold_55 : decode cX11_foretold 55 = .ok (.if_icmp .ge 45, 3) := by decide +kernel
theorem dX11_foretold_58 : decode cX11_foretold 58 = .ok (.iload_n 3, 1) := by decide +kernel
theorem dX11_foretold_59 : decode cX11_foretold 59 = .ok (.iload 4, 2) := by decide +kernel
theorem dX11_foretold_61 : decode cX11_foretold 61 = .ok (.bipush 10, 2) := by decide +kernel
theorem dX11_foretold_63 : decode cX11_foretold 63 = .ok (.irem, 1) := by decide +kernel
theorem dX11_foretold_64 : decode cX11_foretold 64 = .ok (.bipush 9, 2) := by decide +kernel
theorem dX11_foretold_66 : decode cX11_foretold 66 = .ok (.if_icmp .ne 25, 3) := by decide +kernel
theorem dX11_foretold_69 : decode cX11_foretold 69 = .ok (.aload_n 0, 1) := by decide +kernel
theorem dX11_foretold_70 : decode cX11_foretold 70 = .ok (.iload_n 2, 1) := by decide +kernel
theorem dX11_foretold_71 : decode cX11_foretold 71 = .ok (.invokevirtual 70, 3) := by decide +kernel
theorem dX11_foretold_74 : decode cX11_foretold 74 = .ok (.ifCond .eq 17, 3) := by decide +kernel
theorem dX11_foretold_77 : decode cX11_foretold 77 = .ok (.iload_n 3, 1) := by decide +kernel
theorem dX11_foretold_78 : decode cX11_foretold 78 = .ok (.aload_n 0, 1) := by decide +kernel
theorem dX11_foretold_79 : decode cX11_foretold 79 = .ok (.iload_n 2, 1) := by decide +kernel
theorem dX11_foretold_80 : decode cX11_foretold 80 = .ok (.iconst 4, 1) := by decide +kernel
theorem dX11_foretold_81 : decode cX11_foretold 81 = .ok (.invokevirtual 66, 3) := by decide +kernel
theorem dX11_foretold_84 : decode cX11_foretold 84 = .ok (.if_icmp .ge 7, 3) := by decide +kernel
theorem dX11_foretold_87 : decode cX11_foretold 87 = .ok (.iconst 1, 1) := by decide +kernel
theorem dX11_foretold_88 : decode cX11_foretold 88 = .ok (.goto 4, 3) := by decide +kernel
theorem dX11_foretold_91 : decode cX11_foretold 91 = .ok (.iconst 0, 1) := by decide +kernel
theorem dX11_foretold_92 : decode cX11_foretold 92 = .ok (.iadd, 1) := by decide +kernel
theorem dX11_foretold_93 : decode cX11_foretold 93 = .ok (.istore_n 3, 1) := by decide +kernel
theorem dX11_foretold_94 : decode cX11_foretold 94 = .ok (.iinc 4 1, 3) := by decide +kernel
theorem dX11_foretold_97 : decode cX11_foretold 97 = .ok (.goto (-61), 3) := by decide +kernel
theorem dX11_foretold_100 : decode cX11_foretold 100 = .ok (.iload_n 3, 1) := by decide +kernel
theorem dX11_foretold_101 : decode cX11_foretold 101 = .ok (.ireturn, 1) := by decide +kernel
theorem dX11_want_0 : decode cX11_want 0 = .ok (.iload_n 1, 1) := by decide +kernel
theorem dX11_want_1 : decode cX11_want 1 = .ok (.iconst (-1), 1) := by decide +kernel
theorem dX11_want_2 : decode cX11_want 2 = .ok (.if_icmp .ne 12, 3) := by decide +kernel
theorem dX11_want_5 : decode cX11_want 5 = .ok (.aload_n 0, 1) := by decide +kernel
theorem dX11_want_6 : decode cX11_want 6 = .ok (.getfield 7, 3) := by decide +kernel
theorem dX11_want_9 : decode cX11_want 9 = .ok (.iconst 4, 1) := by decide +kernel
theorem dX11_want_10 : decode cX11_want 10 = .ok (.iconst 0, 1) := by decide +kernel
theorem dX11_want_11 : decode cX11_want 11 = .ok (.iastore, 1) := by decide +kernel
theorem dX11_want_12 : decode cX11_want 12 = .ok (.iconst 0, 1) := by decide +kernel
theorem dX11_want_13 : decode cX11_want 13 = .ok (.ireturn, 1) := by decide +kernel
theorem dX11_want_14 : decode cX11_want 14 = .ok (.aload_n 0, 1) := by decide +kernel
theorem dX11_want_15 : decode cX11_want 15 = .ok (.iload_n 1, 1) := by decide +kernel
theorem dX11_want_16 : decode cX11_want 16 = .ok (.invokevirtual 81, 3) := by decide +kernel
theorem dX11_want_19 : decode cX11_want 19 = .ok (.ifCond .eq 23, 3) := by decide +kernel
theorem dX11_want_22 : decode cX11_want 22 = .ok (.iload_n 2, 1) := by decide +kernel
theorem dX11_want_23 : decode cX11_want 23 = .ok (.iconst 0, 1) := by decide +kernel
theorem dX11_want_24 : decode cX11_want 24 = .ok (.iconst 1, 1) := by decide +kernel
theorem dX11_want_25 : decode cX11_want 25 = .ok (.invokestatic 62, 3) := by decide +kernel
theorem dX11_want_28 : decode cX11_want 28 = .ok (.ifCond .eq 14, 3) := by decide +kernel
theorem dX11_want_31 : decode cX11_want 31 = .ok (.aload_n 0, 1) := by decide +kernel
theorem dX11_want_32 : decode cX11_want 32 = .ok (.getfield 7, 3) := by decide +kernel
theorem dX11_want_35 : decode cX11_want 35 = .ok (.iconst 4, 1) := by decide +kernel
theorem dX11_want_36 : decode cX11_want 36 = .ok (.iaload, 1) := by decide +kernel
theorem dX11_want_37 : decode cX11_want 37 = .ok (.bipush 8, 2) := by decide +kernel
theorem dX11_want_39 : decode cX11_want 39 = .ok (.if_icmp .ne 6, 3) := by decide +kernel
theorem dX11_want_42 : decode cX11_want 42 = .ok (.bipush (-2), 2) := by decide +kernel
theorem dX11_want_44 : decode cX11_want 44 = .ok (.ireturn, 1) := by decide +kernel
theorem dX11_want_45 : decode cX11_want 45 = .ok (.aload_n 0, 1) := by decide +kernel
theorem dX11_want_46 : decode cX11_want 46 = .ok (.getfield 7, 3) := by decide +kernel
theorem dX11_want_49 : decode cX11_want 49 = .ok (.bipush 114, 2) := by decide +kernel
theorem dX11_want_51 : decode cX11_want 51 = .ok (.iconst 2, 1) := by decide +kernel
theorem dX11_want_52 : decode cX11_want 52 = .ok (.aload_n 0, 1) := by decide +kernel
theorem dX11_want_53 : decode cX11_want 53 = .ok (.getfield 7, 3) := by decide +kernel
theorem dX11_want_56 : decode cX11_want 56 = .ok (.iconst 4, 1) := by decide +kernel
theorem dX11_want_57 : decode cX11_want 57 = .ok (.iaload, 1) := by decide +kernel
theorem dX11_want_58 : decode cX11_want 58 = .ok (.imul, 1) := by decide +kernel
theorem dX11_want_59 : decode cX11_want 59 = .ok (.iadd, 1) := by decide +kernel
theorem dX11_want_60 : decode cX11_want 60 = .ok (.iload_n 1, 1) := by decide +kernel
theorem dX11_want_61 : decode cX11_want 61 = .ok (.iastore, 1) := by decide +kernel
theorem dX11_want_62 : decode cX11_want 62 = .ok (.aload_n 0, 1) := by decide +kernel
theorem dX11_want_63 : decode cX11_want 63 = .ok (.getfield 7, 3) := by decide +kernel
theorem dX11_want_66 : decode cX11_want 66 = .ok (.bipush 114, 2) := by decide +kernel
theorem dX11_want_68 : decode cX11_want 68 = .ok (.iconst 2, 1) := by decide +kernel
theorem dX11_want_69 : decode cX11_want 69 = .ok (.aload_n 0, 1) := by decide +kernel
theorem dX11_want_70 : decode cX11_want 70 = .ok (.getfield 7, 3) := by decide +kernel
theorem dX11_want_73 : decode cX11_want 73 = .ok (.iconst 4, 1) := by decide +kernel
theorem dX11_want_74 : decode cX11_want 74 = .ok (.iaload, 1) := by decide +kernel
theorem dX11_want_75 : decode cX11_want 75 = .ok (.imul, 1) := by decide +kernel
theorem dX11_want_76 : decode cX11_want 76 = .ok (.iadd, 1) := by decide +kernel
theorem dX11_want_77 : decode cX11_want 77 = .ok (.iconst 1, 1) := by decide +kernel
theorem dX11_want_78 : decode cX11_want 78 = .ok (.iadd, 1) := by decide +kernel
theorem dX11_want_79 : decode cX11_want 79 = .ok (.iload_n 2, 1) := by decide +kernel
theorem dX11_want_80 : decode cX11_want 80 = .ok (.iastore, 1) := by decide +kernel
theorem dX11_want_81 : decode cX11_want 81 = .ok (.aload_n 0, 1) := by decide +kernel
theorem dX11_want_82 : decode cX11_want 82 = .ok (.getfield 7, 3) := by decide +kernel
theorem dX11_want_85 : decode cX11_want 85 = .ok (.iconst 4, 1) := by decide +kernel
theorem dX11_want_86 : decode cX11_want 86 = .ok (.dup2, 1) := by decide +kernel
theorem dX11_want_87 : decode cX11_want 87 = .ok (.iaload, 1) := by decide +kernel
theorem dX11_want_88 : decode cX11_want 88 = .ok (.iconst 1, 1) := by decide +kernel
theorem dX11_want_89 : decode cX11_want 89 = .ok (.iadd, 1) := by decide +kernel
theorem dX11_want_90 : decode cX11_want 90 = .ok (.iastore, 1) := by decide +kernel
theorem dX11_want_91 : decode cX11_want 91 = .ok (.aload_n 0, 1) := by decide +kernel
theorem dX11_want_92 : decode cX11_want 92 = .ok (.getfield 7, 3) := by decide +kernel
theorem dX11_want_95 : decode cX11_want 95 = .ok (.iconst 4, 1) := by decide +kernel
theorem dX11_want_96 : decode cX11_want 96 = .ok (.iaload, 1) := by decide +kernel
theorem dX11_want_97 : decode cX11_want 97 = .ok (.ireturn, 1) := by decide +kernel
theorem dX11_wanted_0 : decode cX11_wanted 0 = .ok (.iconst 0, 1) := by decide +kernel
theorem dX11_wanted_1 : decode cX11_wanted 1 = .ok (.istore_n 2, 1) := by decide +kernel
theorem dX11_wanted_2 : decode cX11_wanted 2 = .ok (.iconst 0, 1) := by decide +kernel
theorem dX11_wanted_3 : decode cX11_wanted 3 = .ok (.istore_n 3, 1) := by decide +kernel
theorem dX11_wanted_4 : decode cX11_wanted 4 = .ok (.iload_n 3, 1) := by decide +kernel
theorem dX11_wanted_5 : decode cX11_wanted 5 = .ok (.aload_n 0, 1) := by decide +kernel
theorem dX11_wanted_6 : decode cX11_wanted 6 = .ok (.getfield 7, 3) := by decide +kernel
theorem dX11_wanted_9 : decode cX11_wanted 9 = .ok (.iconst 4, 1) := by decide +kernel
theorem dX11_wanted_10 : decode cX11_wanted 10 = .ok (.iaload, 1) := by decide +kernel
theorem dX11_wanted_11 : decode cX11_wanted 11 = .ok (.if_icmp .ge 64, 3) := by decide +kernel
theorem dX11_wanted_14 : decode cX11_wanted 14 = .ok (.iload_n 2, 1) := by decide +kernel
theorem dX11_wanted_15 : decode cX11_wanted 15 = .ok (.iconst 1, 1) := by decide +kernel
theorem dX11_wanted_16 : decode cX11_wanted 16 = .ok (.aload_n 0, 1) := by decide +kernel
theorem dX11_wanted_17 : decode cX11_wanted 17 = .ok (.getfield 7, 3) := by decide +kernel
theorem dX11_wanted_20 : decode cX11_wanted 20 = .ok (.bipush 114, 2) := by decide +kernel
theorem dX11_wanted_22 : decode cX11_wanted 22 = .ok (.iconst 2, 1) := by decide +kernel
theorem dX11_wanted_23 : decode cX11_wanted 23 = .ok (.iload_n 3, 1) := by decide +kernel
theorem dX11_wanted_24 : decode cX11_wanted 24 = .ok (.imul, 1) := by decide +kernel
theorem dX11_wanted_25 : decode cX11_wanted 25 = .ok (.iadd, 1) := by decide +kernel
theorem dX11_wanted_26 : decode cX11_wanted 26 = .ok (.iaload, 1) := by decide +kernel
theorem dX11_wanted_27 : decode cX11_wanted 27 = .ok (.ishl, 1) := by decide +kernel
theorem dX11_wanted_28 : decode cX11_wanted 28 = .ok (.iconst (-1), 1) := by decide +kernel
theorem dX11_wanted_29 : decode cX11_wanted 29 = .ok (.ixor, 1) := by decide +kernel
theorem dX11_wanted_30 : decode cX11_wanted 30 = .ok (.iand, 1) := by decide +kernel
theorem dX11_wanted_31 : decode cX11_wanted 31 = .ok (.istore_n 2, 1) := by decide +kernel
theorem dX11_wanted_32 : decode cX11_wanted 32 = .ok (.iload_n 2, 1) := by decide +kernel
theorem dX11_wanted_33 : decode cX11_wanted 33 = .ok (.aload_n 0, 1) := by decide +kernel
theorem dX11_wanted_34 : decode cX11_wanted 34 = .ok (.getfield 7, 3) := by decide +kernel
theorem dX11_wanted_37 : decode cX11_wanted 37 = .ok (.bipush 114, 2) := by decide +kernel
theorem dX11_wanted_39 : decode cX11_wanted 39 = .ok (.iconst 2, 1) := by decide +kernel
theorem dX11_wanted_40 : decode cX11_wanted 40 = .ok (.iload_n 3, 1) := by decide +kernel
theorem dX11_wanted_41 : decode cX11_wanted 41 = .ok (.imul, 1) := by decide +kernel
theorem dX11_wanted_42 : decode cX11_wanted 42 = .ok (.iadd, 1) := by decide +kernel
theorem dX11_wanted_43 : decode cX11_wanted 43 = .ok (.iconst 1, 1) := by decide +kernel
theorem dX11_wanted_44 : decode cX11_wanted 44 = .ok (.iadd, 1) := by decide +kernel
theorem dX11_wanted_45 : decode cX11_wanted 45 = .ok (.iaload, 1) := by decide +kernel
theorem dX11_wanted_46 : decode cX11_wanted 46 = .ok (.iload_n 1, 1) := by decide +kernel
theorem dX11_wanted_47 : decode cX11_wanted 47 = .ok (.if_icmp .ne 19, 3) := by decide +kernel
theorem dX11_wanted_50 : decode cX11_wanted 50 = .ok (.iconst 1, 1) := by decide +kernel
theorem dX11_wanted_51 : decode cX11_wanted 51 = .ok (.aload_n 0, 1) := by decide +kernel
theorem dX11_wanted_52 : decode cX11_wanted 52 = .ok (.getfield 7, 3) := by decide +kernel
theorem dX11_wanted_55 : decode cX11_wanted 55 = .ok (.bipush 114, 2) := by decide +kernel
theorem dX11_wanted_57 : decode cX11_wanted 57 = .ok (.iconst 2, 1) := by decide +kernel
theorem dX11_wanted_58 : decode cX11_wanted 58 = .ok (.iload_n 3, 1) := by decide +kernel
theorem dX11_wanted_59 : decode cX11_wanted 59 = .ok (.imul, 1) := by decide +kernel
theorem dX11_wanted_60 : decode cX11_wanted 60 = .ok (.iadd, 1) := by decide +kernel
theorem dX11_wanted_61 : decode cX11_wanted 61 = .ok (.iaload, 1) := by decide +kernel
theorem dX11_wanted_62 : decode cX11_wanted 62 = .ok (.ishl, 1) := by decide +kernel
theorem dX11_wanted_63 : decode cX11_wanted 63 = .ok (.goto 4, 3) := by decide +kernel
theorem dX11_wanted_66 : decode cX11_wanted 66 = .ok (.iconst 0, 1) := by decide +kernel
theorem dX11_wanted_67 : decode cX11_wanted 67 = .ok (.ior, 1) := by decide +kernel
theorem dX11_wanted_68 : decode cX11_wanted 68 = .ok (.istore_n 2, 1) := by decide +kernel
theorem dX11_wanted_69 : decode cX11_wanted 69 = .ok (.iinc 3 1, 3) := by decide +kernel
theorem dX11_wanted_72 : decode cX11_wanted 72 = .ok (.goto (-68), 3) := by decide +kernel
theorem dX11_wanted_75 : decode cX11_wanted 75 = .ok (.iload_n 2, 1) := by decide +kernel
theorem dX11_wanted_76 : decode cX11_wanted 76 = .ok (.ireturn, 1) := by decide +kernel
theorem dX11_isClosed_0 : decode cX11_isClosed 0 = .ok (.iconst 0, 1) := by decide +kernel
theorem dX11_isClosed_1 : decode cX11_isClosed 1 = .ok (.istore_n 2, 1) := by decide +kernel
theorem dX11_isClosed_2 : decode cX11_isClosed 2 = .ok (.iload_n 2, 1) := by decide +kernel
theorem dX11_isClosed_3 : decode cX11_isClosed 3 = .ok (.aload_n 0, 1) := by decide +kernel
theorem dX11_isClosed_4 : decode cX11_isClosed 4 = .ok (.getfield 7, 3) := by decide +kernel
theorem dX11_isClosed_7 : decode cX11_isClosed 7 = .ok (.bipush 14, 2) := by decide +kernel
theorem dX11_isClosed_9 : decode cX11_isClosed 9 = .ok (.iaload, 1) := by decide +kernel
theorem dX11_isClosed_10 : decode cX11_isClosed 10 = .ok (.if_icmp .ge 36, 3) := by decide +kernel
theorem dX11_isClosed_13 : decode cX11_isClosed 13 = .ok (.iload_n 1, 1) := by decide +kernel
theorem dX11_isClosed_14 : decode cX11_isClosed 14 = .ok (.iload_n 2, 1) := by decide +kernel
theorem dX11_isClosed_15 : decode cX11_isClosed 15 = .ok (.invokestatic 84, 3) := by decide +kernel
theorem dX11_isClosed_18 : decode cX11_isClosed 18 = .ok (.ifCond .eq 22, 3) := by decide +kernel
theorem dX11_isClosed_21 : decode cX11_isClosed 21 = .ok (.aload_n 0, 1) := by decide +kernel
theorem dX11_isClosed_22 : decode cX11_isClosed 22 = .ok (.iload_n 2, 1) := by decide +kernel
theorem dX11_isClosed_23 : decode cX11_isClosed 23 = .ok (.invokevirtual 299, 3) := by decide +kernel
theorem dX11_isClosed_26 : decode cX11_isClosed 26 = .ok (.aload_n 0, 1) := by decide +kernel
theorem dX11_isClosed_27 : decode cX11_isClosed 27 = .ok (.invokevirtual 336, 3) := by decide +kernel
theorem dX11_isClosed_30 : decode cX11_isClosed 30 = .ok (.iand, 1) := by decide +kernel
theorem dX11_isClosed_31 : decode cX11_isClosed 31 = .ok (.iload_n 1, 1) := by decide +kernel
theorem dX11_isClosed_32 : decode cX11_isClosed 32 = .ok (.iconst (-1), 1) := by decide +kernel
theorem dX11_isClosed_33 : decode cX11_isClosed 33 = .ok (.ixor, 1) := by decide +kernel
theorem dX11_isClosed_34 : decode cX11_isClosed 34 = .ok (.iand, 1) := by decide +kernel
theorem dX11_isClosed_35 : decode cX11_isClosed 35 = .ok (.ifCond .eq 5, 3) := by decide +kernel
theorem dX11_isClosed_38 : decode cX11_isClosed 38 = .ok (.iconst 0, 1) := by decide +kernel
theorem dX11_isClosed_39 : decode cX11_isClosed 39 = .ok (.ireturn, 1) := by decide +kernel
theorem dX11_isClosed_40 : decode cX11_isClosed 40 = .ok (.iinc 2 1, 3) := by decide +kernel
theorem dX11_isClosed_43 : decode cX11_isClosed 43 = .ok (.goto (-41), 3) := by decide +kernel
theorem dX11_isClosed_46 : decode cX11_isClosed 46 = .ok (.iconst 1, 1) := by decide +kernel
theorem dX11_isClosed_47 : decode cX11_isClosed 47 = .ok (.ireturn, 1) := by decide +kernel
theorem dX11_cut_0 : decode cX11_cut 0 = .ok (.aload_n 0, 1) := by decide +kernel
theorem dX11_cut_1 : decode cX11_cut 1 = .ok (.invokevirtual 336, 3) := by decide +kernel
theorem dX11_cut_4 : decode cX11_cut 4 = .ok (.istore_n 2, 1) := by decide +kernel
theorem dX11_cut_5 : decode cX11_cut 5 = .ok (.aload_n 0, 1) := by decide +kernel
theorem dX11_cut_6 : decode cX11_cut 6 = .ok (.iconst 1, 1) := by decide +kernel
theorem dX11_cut_7 : decode cX11_cut 7 = .ok (.invokevirtual 402, 3) := by decide +kernel
theorem dX11_cut_10 : decode cX11_cut 10 = .ok (.iload_n 2, 1) := by decide +kernel
theorem dX11_cut_11 : decode cX11_cut 11 = .ok (.iand, 1) := by decide +kernel
theorem dX11_cut_12 : decode cX11_cut 12 = .ok (.istore_n 3, 1) := by decide +kernel
theorem dX11_cut_13 : decode cX11_cut 13 = .ok (.aload_n 0, 1) := by decide +kernel
theorem dX11_cut_14 : decode cX11_cut 14 = .ok (.iconst 0, 1) := by decide +kernel
theorem dX11_cut_15 : decode cX11_cut 15 = .ok (.invokevirtual 402, 3) := by decide +kernel
theorem dX11_cut_18 : decode cX11_cut 18 = .ok (.istore 4, 2) := by decide +kernel
theorem dX11_cut_20 : decode cX11_cut 20 = .ok (.iconst (-1), 1) := by decide +kernel
theorem dX11_cut_21 : decode cX11_cut 21 = .ok (.istore 5, 2) := by decide +kernel
theorem dX11_cut_23 : decode cX11_cut 23 = .ok (.iconst 0, 1) := by decide +kernel
theorem dX11_cut_24 : decode cX11_cut 24 = .ok (.istore 6, 2) := by decide +kernel
theorem dX11_cut_26 : decode cX11_cut 26 = .ok (.iload 6, 2) := by decide +kernel
theorem dX11_cut_28 : decode cX11_cut 28 = .ok (.iload_n 2, 1) := by decide +kernel
theorem dX11_cut_29 : decode cX11_cut 29 = .ok (.if_icmp .gt 103, 3) := by decide +kernel
theorem dX11_cut_32 : decode cX11_cut 32 = .ok (.iload 6, 2) := by decide +kernel
theorem dX11_cut_34 : decode cX11_cut 34 = .ok (.iload_n 2, 1) := by decide +kernel
theorem dX11_cut_35 : decode cX11_cut 35 = .ok (.iconst (-1), 1) := by decide +kernel
theorem dX11_cut_36 : decode cX11_cut 36 = .ok (.ixor, 1) := by decide +kernel
theorem dX11_cut_37 : decode cX11_cut 37 = .ok (.iand, 1) := by decide +kernel
theorem dX11_cut_38 : decode cX11_cut 38 = .ok (.ifCond .ne 88, 3) := by decide +kernel
theorem dX11_cut_41 : decode cX11_cut 41 = .ok (.iload_n 3, 1) := by decide +kernel
theorem dX11_cut_42 : decode cX11_cut 42 = .ok (.iload 6, 2) := by decide +kernel
theorem dX11_cut_44 : decode cX11_cut 44 = .ok (.iconst (-1), 1) := by decide +kernel
theorem dX11_cut_45 : decode cX11_cut 45 = .ok (.ixor, 1) := by decide +kernel
theorem dX11_cut_46 : decode cX11_cut 46 = .ok (.iand, 1) := by decide +kernel
theorem dX11_cut_47 : decode cX11_cut 47 = .ok (.ifCond .ne 79, 3) := by decide +kernel
theorem dX11_cut_50 : decode cX11_cut 50 = .ok (.iload 6, 2) := by decide +kernel
theorem dX11_cut_52 : decode cX11_cut 52 = .ok (.iload 4, 2) := by decide +kernel
theorem dX11_cut_54 : decode cX11_cut 54 = .ok (.iand, 1) := by decide +kernel
theorem dX11_cut_55 : decode cX11_cut 55 = .ok (.ifCond .eq 6, 3) := by decide +kernel
theorem dX11_cut_58 : decode cX11_cut 58 = .ok (.goto 68, 3) := by decide +kernel
theorem dX11_cut_61 : decode cX11_cut 61 = .ok (.iload 5, 2) := by decide +kernel
theorem dX11_cut_63 : decode cX11_cut 63 = .ok (.iconst (-1), 1) := by decide +kernel
theorem dX11_cut_64 : decode cX11_cut 64 = .ok (.if_icmp .eq 49, 3) := by decide +kernel
theorem dX11_cut_67 : decode cX11_cut 67 = .ok (.aload_n 0, 1) := by decide +kernel
theorem dX11_cut_68 : decode cX11_cut 68 = .ok (.iload 6, 2) := by decide +kernel
theorem dX11_cut_70 : decode cX11_cut 70 = .ok (.invokevirtual 390, 3) := by decide +kernel
theorem dX11_cut_73 : decode cX11_cut 73 = .ok (.aload_n 0, 1) := by decide +kernel
theorem dX11_cut_74 : decode cX11_cut 74 = .ok (.iload 5, 2) := by decide +kernel
theorem dX11_cut_76 : decode cX11_cut 76 = .ok (.invokevirtual 390, 3) := by decide +kernel
theorem dX11_cut_79 : decode cX11_cut 79 = .ok (.if_icmp .gt 47, 3) := by decide +kernel
theorem dX11_cut_82 : decode cX11_cut 82 = .ok (.aload_n 0, 1) := by decide +kernel
theorem dX11_cut_83 : decode cX11_cut 83 = .ok (.iload 6, 2) := by decide +kernel
theorem dX11_cut_85 : decode cX11_cut 85 = .ok (.invokevirtual 390, 3) := by decide +kernel
theorem dX11_cut_88 : decode cX11_cut 88 = .ok (.aload_n 0, 1) := by decide +kernel
theorem dX11_cut_89 : decode cX11_cut 89 = .ok (.iload 5, 2) := by decide +kernel
theorem dX11_cut_91 : decode cX11_cut 91 = .ok (.invokevirtual 390, 3) := by decide +kernel
theorem dX11_cut_94 : decode cX11_cut 94 = .ok (.if_icmp .ne 19, 3) := by decide +kernel
theorem dX11_cut_97 : decode cX11_cut 97 = .ok (.iload 6, 2) := by decide +kernel
theorem dX11_cut_99 : decode cX11_cut 99 = .ok (.invokestatic 302, 3) := by decide +kernel
theorem dX11_cut_102 : decode cX11_cut 102 = .ok (.iload 5, 2) := by decide +kernel
theorem dX11_cut_104 : decode cX11_cut 104 = .ok (.invokestatic 302, 3) := by decide +kernel
theorem dX11_cut_107 : decode cX11_cut 107 = .ok (.if_icmp .lt 6, 3) := by decide +kernel
theorem dX11_cut_110 : decode cX11_cut 110 = .ok (.goto 16, 3) := by decide +kernel
theorem dX11_cut_113 : decode cX11_cut 113 = .ok (.aload_n 0, 1) := by decide +kernel
theorem dX11_cut_114 : decode cX11_cut 114 = .ok (.iload 6, 2) := by decide +kernel
theorem dX11_cut_116 : decode cX11_cut 116 = .ok (.invokevirtual 405, 3) := by decide +kernel
theorem dX11_cut_119 : decode cX11_cut 119 = .ok (.ifCond .eq 7, 3) := by decide +kernel
theorem dX11_cut_122 : decode cX11_cut 122 = .ok (.iload 6, 2) := by decide +kernel
theorem dX11_cut_124 : decode cX11_cut 124 = .ok (.istore 5, 2) := by decide +kernel
theorem dX11_cut_126 : decode cX11_cut 126 = .ok (.iinc 6 1, 3) := by decide +kernel
theorem dX11_cut_129 : decode cX11_cut 129 = .ok (.goto (-103), 3) := by decide +kernel
theorem dX11_cut_132 : decode cX11_cut 132 = .ok (.iload 5, 2) := by decide +kernel
theorem dX11_cut_134 : decode cX11_cut 134 = .ok (.iconst (-1), 1) := by decide +kernel
theorem dX11_cut_135 : decode cX11_cut 135 = .ok (.if_icmp .ne 9, 3) := by decide +kernel
theorem dX11_cut_138 : decode cX11_cut 138 = .ok (.sipush (-1000), 3) := by decide +kernel
theorem dX11_cut_141 : decode cX11_cut 141 = .ok (.goto 18, 3) := by decide +kernel
theorem dX11_cut_144 : decode cX11_cut 144 = .ok (.iload_n 1, 1) := by decide +kernel
theorem dX11_cut_145 : decode cX11_cut 145 = .ok (.ifCond .eq 12, 3) := by decide +kernel
theorem dX11_cut_148 : decode cX11_cut 148 = .ok (.aload_n 0, 1) := by decide +kernel
theorem dX11_cut_149 : decode cX11_cut 149 = .ok (.iload 5, 2) := by decide +kernel
theorem dX11_cut_151 : decode cX11_cut 151 = .ok (.invokevirtual 390, 3) := by decide +kernel
theorem dX11_cut_154 : decode cX11_cut 154 = .ok (.goto 5, 3) := by decide +kernel
theorem dX11_cut_157 : decode cX11_cut 157 = .ok (.iload 5, 2) := by decide +kernel
theorem dX11_cut_159 : decode cX11_cut 159 = .ok (.ireturn, 1) := by decide +kernel
theorem dX11_board_0 : decode cX11_board 0 = .ok (.iload_n 1, 1) := by decide +kernel
theorem dX11_board_1 : decode cX11_board 1 = .ok (.iconst (-1), 1) := by decide +kernel
theorem dX11_board_2 : decode cX11_board 2 = .ok (.if_icmp .ne 12, 3) := by decide +kernel
theorem dX11_board_5 : decode cX11_board 5 = .ok (.aload_n 0, 1) := by decide +kernel
theorem dX11_board_6 : decode cX11_board 6 = .ok (.getfield 7, 3) := by decide +kernel
theorem dX11_board_9 : decode cX11_board 9 = .ok (.iconst 5, 1) := by decide +kernel
theorem dX11_board_10 : decode cX11_board 10 = .ok (.iconst 0, 1) := by decide +kernel
theorem dX11_board_11 : decode cX11_board 11 = .ok (.iastore, 1) := by decide +kernel
theorem dX11_board_12 : decode cX11_board 12 = .ok (.iconst 0, 1) := by decide +kernel
theorem dX11_board_13 : decode cX11_board 13 = .ok (.ireturn, 1) := by decide +kernel
theorem dX11_board_14 : decode cX11_board 14 = .ok (.iload_n 1, 1) := by decide +kernel
theorem dX11_board_15 : decode cX11_board 15 = .ok (.iconst 1, 1) := by decide +kernel
theorem dX11_board_16 : decode cX11_board 16 = .ok (.bipush 99, 2) := by decide +kernel
theorem dX11_board_18 : decode cX11_board 18 = .ok (.invokestatic 62, 3) := by decide +kernel
theorem dX11_board_21 : decode cX11_board 21 = .ok (.ifCond .eq 14, 3) := by decide +kernel
theorem dX11_board_24 : decode cX11_board 24 = .ok (.aload_n 0, 1) := by decide +kernel
theorem dX11_board_25 : decode cX11_board 25 = .ok (.getfield 7, 3) := by decide +kernel
theorem dX11_board_28 : decode cX11_board 28 = .ok (.iconst 5, 1) := by decide +kernel
theorem dX11_board_29 : decode cX11_board 29 = .ok (.iaload, 1) := by decide +kernel
theorem dX11_board_30 : decode cX11_board 30 = .ok (.bipush 8, 2) := by decide +kernel
theorem dX11_board_32 : decode cX11_board 32 = .ok (.if_icmp .ne 6, 3) := by decide +kernel
theorem dX11_board_35 : decode cX11_board 35 = .ok (.bipush (-2), 2) := by decide +kernel
theorem dX11_board_37 : decode cX11_board 37 = .ok (.ireturn, 1) := by decide +kernel
theorem dX11_board_38 : decode cX11_board 38 = .ok (.aload_n 0, 1) := by decide +kernel
theorem dX11_board_39 : decode cX11_board 39 = .ok (.getfield 7, 3) := by decide +kernel
theorem dX11_board_42 : decode cX11_board 42 = .ok (.sipush 130, 3) := by decide +kernel
theorem dX11_board_45 : decode cX11_board 45 = .ok (.aload_n 0, 1) := by decide +kernel
theorem dX11_board_46 : decode cX11_board 46 = .ok (.getfield 7, 3) := by decide +kernel
theorem dX11_board_49 : decode cX11_board 49 = .ok (.iconst 5, 1) := by decide +kernel
theorem dX11_board_50 : decode cX11_board 50 = .ok (.iaload, 1) := by decide +kernel
theorem dX11_board_51 : decode cX11_board 51 = .ok (.iadd, 1) := by decide +kernel
theorem dX11_board_52 : decode cX11_board 52 = .ok (.iload_n 1, 1) := by decide +kernel
theorem dX11_board_53 : decode cX11_board 53 = .ok (.iastore, 1) := by decide +kernel
theorem dX11_board_54 : decode cX11_board 54 = .ok (.aload_n 0, 1) := by decide +kernel
theorem dX11_board_55 : decode cX11_board 55 = .ok (.getfield 7, 3) := by decide +kernel
theorem dX11_board_58 : decode cX11_board 58 = .ok (.iconst 5, 1) := by decide +kernel
theorem dX11_board_59 : decode cX11_board 59 = .ok (.dup2, 1) := by decide +kernel
theorem dX11_board_60 : decode cX11_board 60 = .ok (.iaload, 1) := by decide +kernel
theorem dX11_board_61 : decode cX11_board 61 = .ok (.iconst 1, 1) := by decide +kernel
theorem dX11_board_62 : decode cX11_board 62 = .ok (.iadd, 1) := by decide +kernel
theorem dX11_board_63 : decode cX11_board 63 = .ok (.iastore, 1) := by decide +kernel
theorem dX11_board_64 : decode cX11_board 64 = .ok (.aload_n 0, 1) := by decide +kernel
theorem dX11_board_65 : decode cX11_board 65 = .ok (.getfield 7, 3) := by decide +kernel
theorem dX11_board_68 : decode cX11_board 68 = .ok (.iconst 5, 1) := by decide +kernel
theorem dX11_board_69 : decode cX11_board 69 = .ok (.iaload, 1) := by decide +kernel
theorem dX11_board_70 : decode cX11_board 70 = .ok (.ireturn, 1) := by decide +kernel
theorem dX11_endOf_0 : decode cX11_endOf 0 = .ok (.iconst 0, 1) := by decide +kernel
theorem dX11_endOf_1 : decode cX11_endOf 1 = .ok (.istore_n 3, 1) := by decide +kernel
theorem dX11_endOf_2 : decode cX11_endOf 2 = .ok (.iload_n 3, 1) := by decide +kernel
theorem dX11_endOf_3 : decode cX11_endOf 3 = .ok (.iconst 4, 1) := by decide +kernel
theorem dX11_endOf_4 : decode cX11_endOf 4 = .ok (.if_icmp .ge 16, 3) := by decide +kernel
theorem dX11_endOf_7 : decode cX11_endOf 7 = .ok (.aload_n 0, 1) := by decide +kernel
theorem dX11_endOf_8 : decode cX11_endOf 8 = .ok (.getfield 43, 3) := by decide +kernel
theorem dX11_endOf_11 : decode cX11_endOf 11 = .ok (.iload_n 3, 1) := by decide +kernel
theorem dX11_endOf_12 : decode cX11_endOf 12 = .ok (.iconst 0, 1) := by decide +kernel
theorem dX11_endOf_13 : decode cX11_endOf 13 = .ok (.iastore, 1) := by decide +kernel
theorem dX11_endOf_14 : decode cX11_endOf 14 = .ok (.iinc 3 1, 3) := by decide +kernel
theorem dX11_endOf_17 : decode cX11_endOf 17 = .ok (.goto (-15), 3) := by decide +kernel
theorem dX11_endOf_20 : decode cX11_endOf 20 = .ok (.iload_n 1, 1) := by decide +kernel
theorem dX11_endOf_21 : decode cX11_endOf 21 = .ok (.istore_n 3, 1) := by decide +kernel
theorem dX11_endOf_22 : decode cX11_endOf 22 = .ok (.aload_n 0, 1) := by decide +kernel
theorem dX11_endOf_23 : decode cX11_endOf 23 = .ok (.getfield 7, 3) := by decide +kernel
theorem dX11_endOf_26 : decode cX11_endOf 26 = .ok (.iconst 5, 1) := by decide +kernel
theorem dX11_endOf_27 : decode cX11_endOf 27 = .ok (.iaload, 1) := by decide +kernel
theorem dX11_endOf_28 : decode cX11_endOf 28 = .ok (.iconst 1, 1) := by decide +kernel
theorem dX11_endOf_29 : decode cX11_endOf 29 = .ok (.isub, 1) := by decide +kernel
theorem dX11_endOf_30 : decode cX11_endOf 30 = .ok (.istore 4, 2) := by decide +kernel
theorem dX11_endOf_32 : decode cX11_endOf 32 = .ok (.iload 4, 2) := by decide +kernel
theorem dX11_endOf_34 : decode cX11_endOf 34 = .ok (.ifCond .lt 45, 3) := by decide +kernel
theorem dX11_endOf_37 : decode cX11_endOf 37 = .ok (.aload_n 0, 1) := by decide +kernel
theorem dX11_endOf_38 : decode cX11_endOf 38 = .ok (.getfield 46, 3) := by decide +kernel
theorem dX11_endOf_41 : decode cX11_endOf 41 = .ok (.iload 4, 2) := by decide +kernel
theorem dX11_endOf_43 : decode cX11_endOf 43 = .ok (.iload_n 3, 1) := by decide +kernel
theorem dX11_endOf_44 : decode cX11_endOf 44 = .ok (.iload_n 2, 1) := by decide +kernel
theorem dX11_endOf_45 : decode cX11_endOf 45 = .ok (.irem, 1) := by decide +kernel
theorem dX11_endOf_46 : decode cX11_endOf 46 = .ok (.iastore, 1) := by decide +kernel
theorem dX11_endOf_47 : decode cX11_endOf 47 = .ok (.aload_n 0, 1) := by decide +kernel
theorem dX11_endOf_48 : decode cX11_endOf 48 = .ok (.getfield 43, 3) := by decide +kernel
theorem dX11_endOf_51 : decode cX11_endOf 51 = .ok (.iload_n 3, 1) := by decide +kernel
theorem dX11_endOf_52 : decode cX11_endOf 52 = .ok (.iload_n 2, 1) := by decide +kernel
theorem dX11_endOf_53 : decode cX11_endOf 53 = .ok (.irem, 1) := by decide +kernel
theorem dX11_endOf_54 : decode cX11_endOf 54 = .ok (.dup2, 1) := by decide +kernel
theorem dX11_endOf_55 : decode cX11_endOf 55 = .ok (.iaload, 1) := by decide +kernel
theorem dX11_endOf_56 : decode cX11_endOf 56 = .ok (.aload_n 0, 1) := by decide +kernel
theorem dX11_endOf_57 : decode cX11_endOf 57 = .ok (.getfield 7, 3) := by decide +kernel
theorem dX11_endOf_60 : decode cX11_endOf 60 = .ok (.sipush 130, 3) := by decide +kernel
theorem dX11_endOf_63 : decode cX11_endOf 63 = .ok (.iload 4, 2) := by decide +kernel
theorem dX11_endOf_65 : decode cX11_endOf 65 = .ok (.iadd, 1) := by decide +kernel
theorem dX11_endOf_66 : decode cX11_endOf 66 = .ok (.iaload, 1) := by decide +kernel
theorem dX11_endOf_67 : decode cX11_endOf 67 = .ok (.iadd, 1) := by decide +kernel
theorem dX11_endOf_68 : decode cX11_endOf 68 = .ok (.iastore, 1) := by decide +kernel
theorem dX11_endOf_69 : decode cX11_endOf 69 = .ok (.iload_n 3, 1) := by decide +kernel
theorem dX11_endOf_70 : decode cX11_endOf 70 = .ok (.iload_n 2, 1) := by decide +kernel
theorem dX11_endOf_71 : decode cX11_endOf 71 = .ok (.idiv, 1) := by decide +kernel
theorem dX11_endOf_72 : decode cX11_endOf 72 = .ok (.istore_n 3, 1) := by decide +kernel
theorem dX11_endOf_73 : decode cX11_endOf 73 = .ok (.iinc 4 (-1), 3) := by decide +kernel
theorem dX11_endOf_76 : decode cX11_endOf 76 = .ok (.goto (-44), 3) := by decide +kernel
theorem dX11_endOf_79 : decode cX11_endOf 79 = .ok (.iconst 0, 1) := by decide +kernel
theorem dX11_endOf_80 : decode cX11_endOf 80 = .ok (.istore 4, 2) := by decide +kernel
theorem dX11_endOf_82 : decode cX11_endOf 82 = .ok (.iconst 0, 1) := by decide +kernel
theorem dX11_endOf_83 : decode cX11_endOf 83 = .ok (.istore 5, 2) := by decide +kernel
theorem dX11_endOf_85 : decode cX11_endOf 85 = .ok (.iload 5, 2) := by decide +kernel
theorem dX11_endOf_87 : decode cX11_endOf 87 = .ok (.iload_n 2, 1) := by decide +kernel
theorem dX11_endOf_88 : decode cX11_endOf 88 = .ok (.if_icmp .ge 35, 3) := by decide +kernel
theorem dX11_endOf_91 : decode cX11_endOf 91 = .ok (.aload_n 0, 1) := by decide +kernel
theorem dX11_endOf_92 : decode cX11_endOf 92 = .ok (.getfield 43, 3) := by decide +kernel
theorem dX11_endOf_95 : decode cX11_endOf 95 = .ok (.iload 5, 2) := by decide +kernel
theorem dX11_endOf_97 : decode cX11_endOf 97 = .ok (.iaload, 1) := by decide +kernel
theorem dX11_endOf_98 : decode cX11_endOf 98 = .ok (.iload 4, 2) := by decide +kernel
theorem dX11_endOf_100 : decode cX11_endOf 100 = .ok (.if_icmp .le 13, 3) := by decide +kernel
theorem dX11_endOf_103 : decode cX11_endOf 103 = .ok (.aload_n 0, 1) := by decide +kernel
theorem dX11_endOf_104 : decode cX11_endOf 104 = .ok (.getfield 43, 3) := by decide +kernel
theorem dX11_endOf_107 : decode cX11_endOf 107 = .ok (.iload 5, 2) := by decide +kernel
theorem dX11_endOf_109 : decode cX11_endOf 109 = .ok (.iaload, 1) := by decide +kernel
theorem dX11_endOf_110 : decode cX11_endOf 110 = .ok (.goto 5, 3) := by decide +kernel
theorem dX11_endOf_113 : decode cX11_endOf 113 = .ok (.iload 4, 2) := by decide +kernel
theorem dX11_endOf_115 : decode cX11_endOf 115 = .ok (.istore 4, 2) := by decide +kernel
theorem dX11_endOf_117 : decode cX11_endOf 117 = .ok (.iinc 5 1, 3) := by decide +kernel
theorem dX11_endOf_120 : decode cX11_endOf 120 = .ok (.goto (-35), 3) := by decide +kernel
theorem dX11_endOf_123 : decode cX11_endOf 123 = .ok (.iload 4, 2) := by decide +kernel
theorem dX11_endOf_125 : decode cX11_endOf 125 = .ok (.ireturn, 1) := by decide +kernel
theorem dX11_hands_0 : decode cX11_hands 0 = .ok (.iload_n 1, 1) := by decide +kernel
theorem dX11_hands_1 : decode cX11_hands 1 = .ok (.iconst 1, 1) := by decide +kernel
theorem dX11_hands_2 : decode cX11_hands 2 = .ok (.iconst 4, 1) := by decide +kernel
theorem dX11_hands_3 : decode cX11_hands 3 = .ok (.invokestatic 62, 3) := by decide +kernel
theorem dX11_hands_6 : decode cX11_hands 6 = .ok (.ifCond .eq 19, 3) := by decide +kernel
theorem dX11_hands_9 : decode cX11_hands 9 = .ok (.iload_n 2, 1) := by decide +kernel
theorem dX11_hands_10 : decode cX11_hands 10 = .ok (.iconst (-1), 1) := by decide +kernel
theorem dX11_hands_11 : decode cX11_hands 11 = .ok (.aload_n 0, 1) := by decide +kernel
theorem dX11_hands_12 : decode cX11_hands 12 = .ok (.getfield 7, 3) := by decide +kernel
theorem dX11_hands_15 : decode cX11_hands 15 = .ok (.iconst 5, 1) := by decide +kernel
theorem dX11_hands_16 : decode cX11_hands 16 = .ok (.iaload, 1) := by decide +kernel
theorem dX11_hands_17 : decode cX11_hands 17 = .ok (.iconst 1, 1) := by decide +kernel
theorem dX11_hands_18 : decode cX11_hands 18 = .ok (.isub, 1) := by decide +kernel
theorem dX11_hands_19 : decode cX11_hands 19 = .ok (.invokestatic 62, 3) := by decide +kernel
theorem dX11_hands_22 : decode cX11_hands 22 = .ok (.ifCond .ne 6, 3) := by decide +kernel
theorem dX11_hands_25 : decode cX11_hands 25 = .ok (.bipush (-2), 2) := by decide +kernel
theorem dX11_hands_27 : decode cX11_hands 27 = .ok (.ireturn, 1) := by decide +kernel
theorem dX11_hands_28 : decode cX11_hands 28 = .ok (.iconst 1, 1) := by decide +kernel
theorem dX11_hands_29 : decode cX11_hands 29 = .ok (.istore_n 3, 1) := by decide +kernel
theorem dX11_hands_30 : decode cX11_hands 30 = .ok (.iconst 0, 1) := by decide +kernel
theorem dX11_hands_31 : decode cX11_hands 31 = .ok (.istore 4, 2) := by decide +kernel
theorem dX11_hands_33 : decode cX11_hands 33 = .ok (.iload 4, 2) := by decide +kernel
theorem dX11_hands_35 : decode cX11_hands 35 = .ok (.aload_n 0, 1) := by decide +kernel
theorem dX11_hands_36 : decode cX11_hands 36 = .ok (.getfield 7, 3) := by decide +kernel
theorem dX11_hands_39 : decode cX11_hands 39 = .ok (.iconst 5, 1) := by decide +kernel
theorem dX11_hands_40 : decode cX11_hands 40 = .ok (.iaload, 1) := by decide +kernel
theorem dX11_hands_41 : decode cX11_hands 41 = .ok (.if_icmp .ge 13, 3) := by decide +kernel
theorem dX11_hands_44 : decode cX11_hands 44 = .ok (.iload_n 3, 1) := by decide +kernel
theorem dX11_hands_45 : decode cX11_hands 45 = .ok (.iload_n 1, 1) := by decide +kernel
theorem dX11_hands_46 : decode cX11_hands 46 = .ok (.imul, 1) := by decide +kernel
theorem dX11_hands_47 : decode cX11_hands 47 = .ok (.istore_n 3, 1) := by decide +kernel
theorem dX11_hands_48 : decode cX11_hands 48 = .ok (.iinc 4 1, 3) := by decide +kernel
theorem dX11_hands_51 : decode cX11_hands 51 = .ok (.goto (-18), 3) := by decide +kernel
theorem dX11_hands_54 : decode cX11_hands 54 = .ok (.iconst 0, 1) := by decide +kernel
theorem dX11_hands_55 : decode cX11_hands 55 = .ok (.istore 4, 2) := by decide +kernel
theorem dX11_hands_57 : decode cX11_hands 57 = .ok (.ldc_w 408, 3) := by decide +kernel
theorem dX11_hands_60 : decode cX11_hands 60 = .ok (.istore 5, 2) := by decide +kernel
theorem dX11_hands_62 : decode cX11_hands 62 = .ok (.iconst 0, 1) := by decide +kernel
theorem dX11_hands_63 : decode cX11_hands 63 = .ok (.istore 6, 2) := by decide +kernel
theorem dX11_hands_65 : decode cX11_hands 65 = .ok (.iload 6, 2) := by decide +kernel
theorem dX11_hands_67 : decode cX11_hands 67 = .ok (.iload_n 3, 1) := by decide +kernel
theorem dX11_hands_68 : decode cX11_hands 68 = .ok (.if_icmp .ge 36, 3) := by decide +kernel
theorem dX11_hands_71 : decode cX11_hands 71 = .ok (.aload_n 0, 1) := by decide +kernel
theorem dX11_hands_72 : decode cX11_hands 72 = .ok (.iload 6, 2) := by decide +kernel
theorem dX11_hands_74 : decode cX11_hands 74 = .ok (.iload_n 1, 1) := by decide +kernel
theorem dX11_hands_75 : decode cX11_hands 75 = .ok (.invokevirtual 409, 3) := by decide +kernel
theorem dX11_hands_78 : decode cX11_hands 78 = .ok (.istore 7, 2) := by decide +kernel
theorem dX11_hands_80 : decode cX11_hands 80 = .ok (.iload 7, 2) := by decide +kernel
theorem dX11_hands_82 : decode cX11_hands 82 = .ok (.iload 5, 2) := by decide +kernel
theorem dX11_hands_84 : decode cX11_hands 84 = .ok (.if_icmp .lt 6, 3) := by decide +kernel
theorem dX11_hands_87 : decode cX11_hands 87 = .ok (.goto 11, 3) := by decide +kernel
theorem dX11_hands_90 : decode cX11_hands 90 = .ok (.iload 7, 2) := by decide +kernel
theorem dX11_hands_92 : decode cX11_hands 92 = .ok (.istore 5, 2) := by decide +kernel
theorem dX11_hands_94 : decode cX11_hands 94 = .ok (.iload 6, 2) := by decide +kernel
theorem dX11_hands_96 : decode cX11_hands 96 = .ok (.istore 4, 2) := by decide +kernel
theorem dX11_hands_98 : decode cX11_hands 98 = .ok (.iinc 6 1, 3) := by decide +kernel
theorem dX11_hands_101 : decode cX11_hands 101 = .ok (.goto (-36), 3) := by decide +kernel
theorem dX11_hands_104 : decode cX11_hands 104 = .ok (.aload_n 0, 1) := by decide +kernel
theorem dX11_hands_105 : decode cX11_hands 105 = .ok (.iload 4, 2) := by decide +kernel
theorem dX11_hands_107 : decode cX11_hands 107 = .ok (.iload_n 1, 1) := by decide +kernel
theorem dX11_hands_108 : decode cX11_hands 108 = .ok (.invokevirtual 409, 3) := by decide +kernel
theorem dX11_hands_111 : decode cX11_hands 111 = .ok (.istore 6, 2) := by decide +kernel
theorem dX11_hands_113 : decode cX11_hands 113 = .ok (.iload_n 2, 1) := by decide +kernel
theorem dX11_hands_114 : decode cX11_hands 114 = .ok (.iconst (-1), 1) := by decide +kernel
theorem dX11_hands_115 : decode cX11_hands 115 = .ok (.if_icmp .ne 8, 3) := by decide +kernel
theorem dX11_hands_118 : decode cX11_hands 118 = .ok (.iload 6, 2) := by decide +kernel
theorem dX11_hands_120 : decode cX11_hands 120 = .ok (.goto 9, 3) := by decide +kernel
theorem dX11_hands_123 : decode cX11_hands 123 = .ok (.aload_n 0, 1) := by decide +kernel
theorem dX11_hands_124 : decode cX11_hands 124 = .ok (.getfield 46, 3) := by decide +kernel
theorem dX11_hands_127 : decode cX11_hands 127 = .ok (.iload_n 2, 1) := by decide +kernel
theorem dX11_hands_128 : decode cX11_hands 128 = .ok (.iaload, 1) := by decide +kernel
theorem dX11_hands_129 : decode cX11_hands 129 = .ok (.ireturn, 1) := by decide +kernel
theorem dX11_isFlat_0 : decode cX11_isFlat 0 = .ok (.iconst 0, 1) := by decide +kernel
theorem dX11_isFlat_1 : decode cX11_isFlat 1 = .ok (.istore 4, 2) := by decide +kernel
theorem dX11_isFlat_3 : decode cX11_isFlat 3 = .ok (.iload 4, 2) := by decide +kernel
theorem dX11_isFlat_5 : decode cX11_isFlat 5 = .ok (.bipush 100, 2) := by decide +kernel
theorem dX11_isFlat_7 : decode cX11_isFlat 7 = .ok (.if_icmp .ge 81, 3) := by decide +kernel
theorem dX11_isFlat_10 : decode cX11_isFlat 10 = .ok (.iconst 0, 1) := by decide +kernel
theorem dX11_isFlat_11 : decode cX11_isFlat 11 = .ok (.istore 5, 2) := by decide +kernel
theorem dX11_isFlat_13 : decode cX11_isFlat 13 = .ok (.iconst 0, 1) := by decide +kernel
theorem dX11_isFlat_14 : decode cX11_isFlat 14 = .ok (.istore 6, 2) := by decide +kernel
theorem dX11_isFlat_16 : decode cX11_isFlat 16 = .ok (.iload 6, 2) := by decide +kernel
theorem dX11_isFlat_18 : decode cX11_isFlat 18 = .ok (.aload_n 0, 1) := by decide +kernel
theorem dX11_isFlat_19 : decode cX11_isFlat 19 = .ok (.getfield 7, 3) := by decide +kernel
theorem dX11_isFlat_22 : decode cX11_isFlat 22 = .ok (.bipush 14, 2) := by decide +kernel
theorem dX11_isFlat_24 : decode cX11_isFlat 24 = .ok (.iaload, 1) := by decide +kernel
theorem dX11_isFlat_25 : decode cX11_isFlat 25 = .ok (.if_icmp .ge 49, 3) := by decide +kernel
theorem dX11_isFlat_28 : decode cX11_isFlat 28 = .ok (.iload 5, 2) := by decide +kernel
theorem dX11_isFlat_30 : decode cX11_isFlat 30 = .ok (.iload_n 1, 1) := by decide +kernel
theorem dX11_isFlat_31 : decode cX11_isFlat 31 = .ok (.iload 6, 2) := by decide +kernel
theorem dX11_isFlat_33 : decode cX11_isFlat 33 = .ok (.invokestatic 84, 3) := by decide +kernel
theorem dX11_isFlat_36 : decode cX11_isFlat 36 = .ok (.ifCond .eq 28, 3) := by decide +kernel
theorem dX11_isFlat_39 : decode cX11_isFlat 39 = .ok (.aload_n 0, 1) := by decide +kernel
theorem dX11_isFlat_40 : decode cX11_isFlat 40 = .ok (.iload 6, 2) := by decide +kernel
theorem dX11_isFlat_42 : decode cX11_isFlat 42 = .ok (.iconst 3, 1) := by decide +kernel
theorem dX11_isFlat_43 : decode cX11_isFlat 43 = .ok (.invokevirtual 66, 3) := by decide +kernel
theorem dX11_isFlat_46 : decode cX11_isFlat 46 = .ok (.iload 4, 2) := by decide +kernel
theorem dX11_isFlat_48 : decode cX11_isFlat 48 = .ok (.iload 4, 2) := by decide +kernel
theorem dX11_isFlat_50 : decode cX11_isFlat 50 = .ok (.iload_n 3, 1) := by decide +kernel
theorem dX11_isFlat_51 : decode cX11_isFlat 51 = .ok (.iadd, 1) := by decide +kernel
theorem dX11_isFlat_52 : decode cX11_isFlat 52 = .ok (.iconst 1, 1) := by decide +kernel
theorem dX11_isFlat_53 : decode cX11_isFlat 53 = .ok (.isub, 1) := by decide +kernel
theorem dX11_isFlat_54 : decode cX11_isFlat 54 = .ok (.invokestatic 62, 3) := by decide +kernel
theorem dX11_isFlat_57 : decode cX11_isFlat 57 = .ok (.ifCond .eq 7, 3) := by decide +kernel
theorem dX11_isFlat_60 : decode cX11_isFlat 60 = .ok (.iconst 1, 1) := by decide +kernel
theorem dX11_isFlat_61 : decode cX11_isFlat 61 = .ok (.goto 4, 3) := by decide +kernel
theorem dX11_isFlat_64 : decode cX11_isFlat 64 = .ok (.iconst 0, 1) := by decide +kernel
theorem dX11_isFlat_65 : decode cX11_isFlat 65 = .ok (.iadd, 1) := by decide +kernel
theorem dX11_isFlat_66 : decode cX11_isFlat 66 = .ok (.istore 5, 2) := by decide +kernel
theorem dX11_isFlat_68 : decode cX11_isFlat 68 = .ok (.iinc 6 1, 3) := by decide +kernel
theorem dX11_isFlat_71 : decode cX11_isFlat 71 = .ok (.goto (-55), 3) := by decide +kernel
theorem dX11_isFlat_74 : decode cX11_isFlat 74 = .ok (.iload 5, 2) := by decide +kernel
theorem dX11_isFlat_76 : decode cX11_isFlat 76 = .ok (.iload_n 2, 1) := by decide +kernel
theorem dX11_isFlat_77 : decode cX11_isFlat 77 = .ok (.if_icmp .le 5, 3) := by decide +kernel
theorem dX11_isFlat_80 : decode cX11_isFlat 80 = .ok (.iconst 0, 1) := by decide +kernel
theorem dX11_isFlat_81 : decode cX11_isFlat 81 = .ok (.ireturn, 1) := by decide +kernel
theorem dX11_isFlat_82 : decode cX11_isFlat 82 = .ok (.iinc 4 1, 3) := by decide +kernel
theorem dX11_isFlat_85 : decode cX11_isFlat 85 = .ok (.goto (-82), 3) := by decide +kernel
theorem dX11_isFlat_88 : decode cX11_isFlat 88 = .ok (.iconst 1, 1) := by decide +kernel
theorem dX11_isFlat_89 : decode cX11_isFlat 89 = .ok (.ireturn, 1) := by decide +kernel
theorem dX11_flat_0 : decode cX11_flat 0 = .ok (.aload_n 0, 1) := by decide +kernel
theorem dX11_flat_1 : decode cX11_flat 1 = .ok (.iload_n 1, 1) := by decide +kernel
theorem dX11_flat_2 : decode cX11_flat 2 = .ok (.invokevirtual 74, 3) := by decide +kernel
theorem dX11_flat_5 : decode cX11_flat 5 = .ok (.ifCond .eq 23, 3) := by decide +kernel
theorem dX11_flat_8 : decode cX11_flat 8 = .ok (.iload_n 2, 1) := by decide +kernel
theorem dX11_flat_9 : decode cX11_flat 9 = .ok (.iconst 0, 1) := by decide +kernel
theorem dX11_flat_10 : decode cX11_flat 10 = .ok (.bipush 12, 2) := by decide +kernel
theorem dX11_flat_12 : decode cX11_flat 12 = .ok (.invokestatic 62, 3) := by decide +kernel
theorem dX11_flat_15 : decode cX11_flat 15 = .ok (.ifCond .eq 13, 3) := by decide +kernel
theorem dX11_flat_18 : decode cX11_flat 18 = .ok (.iload_n 3, 1) := by decide +kernel
theorem dX11_flat_19 : decode cX11_flat 19 = .ok (.iconst 1, 1) := by decide +kernel
theorem dX11_flat_20 : decode cX11_flat 20 = .ok (.bipush 100, 2) := by decide +kernel
theorem dX11_flat_22 : decode cX11_flat 22 = .ok (.invokestatic 62, 3) := by decide +kernel
theorem dX11_flat_25 : decode cX11_flat 25 = .ok (.ifCond .ne 5, 3) := by decide +kernel
theorem dX11_flat_28 : decode cX11_flat 28 = .ok (.iconst (-1), 1) := by decide +kernel
theorem dX11_flat_29 : decode cX11_flat 29 = .ok (.ireturn, 1) := by decide +kernel
theorem dX11_flat_30 : decode cX11_flat 30 = .ok (.aload_n 0, 1) := by decide +kernel
theorem dX11_flat_31 : decode cX11_flat 31 = .ok (.iload_n 1, 1) := by decide +kernel
theorem dX11_flat_32 : decode cX11_flat 32 = .ok (.invokevirtual 387, 3) := by decide +kernel
theorem dX11_flat_35 : decode cX11_flat 35 = .ok (.aload_n 0, 1) := by decide +kernel
theorem dX11_flat_36 : decode cX11_flat 36 = .ok (.invokevirtual 336, 3) := by decide +kernel
theorem dX11_flat_39 : decode cX11_flat 39 = .ok (.iand, 1) := by decide +kernel
theorem dX11_flat_40 : decode cX11_flat 40 = .ok (.istore 4, 2) := by decide +kernel
theorem dX11_flat_42 : decode cX11_flat 42 = .ok (.iconst 0, 1) := by decide +kernel
theorem dX11_flat_43 : decode cX11_flat 43 = .ok (.istore 5, 2) := by decide +kernel
theorem dX11_flat_45 : decode cX11_flat 45 = .ok (.iconst 1, 1) := by decide +kernel
theorem dX11_flat_46 : decode cX11_flat 46 = .ok (.istore 6, 2) := by decide +kernel
theorem dX11_flat_48 : decode cX11_flat 48 = .ok (.iload 6, 2) := by decide +kernel
theorem dX11_flat_50 : decode cX11_flat 50 = .ok (.iload 4, 2) := by decide +kernel
theorem dX11_flat_52 : decode cX11_flat 52 = .ok (.if_icmp .gt 47, 3) := by decide +kernel
theorem dX11_flat_55 : decode cX11_flat 55 = .ok (.iload 6, 2) := by decide +kernel
theorem dX11_flat_57 : decode cX11_flat 57 = .ok (.iload 4, 2) := by decide +kernel
theorem dX11_flat_59 : decode cX11_flat 59 = .ok (.iconst (-1), 1) := by decide +kernel
theorem dX11_flat_60 : decode cX11_flat 60 = .ok (.ixor, 1) := by decide +kernel
theorem dX11_flat_61 : decode cX11_flat 61 = .ok (.iand, 1) := by decide +kernel
theorem dX11_flat_62 : decode cX11_flat 62 = .ok (.ifCond .ne 31, 3) := by decide +kernel
theorem dX11_flat_65 : decode cX11_flat 65 = .ok (.iload 6, 2) := by decide +kernel
theorem dX11_flat_67 : decode cX11_flat 67 = .ok (.invokestatic 302, 3) := by decide +kernel
theorem dX11_flat_70 : decode cX11_flat 70 = .ok (.iload 5, 2) := by decide +kernel
theorem dX11_flat_72 : decode cX11_flat 72 = .ok (.invokestatic 302, 3) := by decide +kernel
theorem dX11_flat_75 : decode cX11_flat 75 = .ok (.if_icmp .le 18, 3) := by decide +kernel
theorem dX11_flat_78 : decode cX11_flat 78 = .ok (.aload_n 0, 1) := by decide +kernel
theorem dX11_flat_79 : decode cX11_flat 79 = .ok (.iload 6, 2) := by decide +kernel
theorem dX11_flat_81 : decode cX11_flat 81 = .ok (.iload_n 2, 1) := by decide +kernel
theorem dX11_flat_82 : decode cX11_flat 82 = .ok (.iload_n 3, 1) := by decide +kernel
theorem dX11_flat_83 : decode cX11_flat 83 = .ok (.invokevirtual 412, 3) := by decide +kernel
theorem dX11_flat_86 : decode cX11_flat 86 = .ok (.ifCond .eq 7, 3) := by decide +kernel
theorem dX11_flat_89 : decode cX11_flat 89 = .ok (.iload 6, 2) := by decide +kernel
theorem dX11_flat_91 : decode cX11_flat 91 = .ok (.istore 5, 2) := by decide +kernel
theorem dX11_flat_93 : decode cX11_flat 93 = .ok (.iinc 6 1, 3) := by decide +kernel
theorem dX11_flat_96 : decode cX11_flat 96 = .ok (.goto (-48), 3) := by decide +kernel
theorem dX11_flat_99 : decode cX11_flat 99 = .ok (.iload 5, 2) := by decide +kernel
theorem dX11_flat_101 : decode cX11_flat 101 = .ok (.ireturn, 1) := by decide +kernel
theorem dX11_seam_0 : decode cX11_seam 0 = .ok (.iload_n 1, 1) := by decide +kernel
theorem dX11_seam_1 : decode cX11_seam 1 = .ok (.iconst (-1), 1) := by decide +kernel
theorem dX11_seam_2 : decode cX11_seam 2 = .ok (.if_icmp .ne 13, 3) := by decide +kernel
theorem dX11_seam_5 : decode cX11_seam 5 = .ok (.aload_n 0, 1) := by decide +kernel
theorem dX11_seam_6 : decode cX11_seam 6 = .ok (.getfield 7, 3) := by decide +kernel
theorem dX11_seam_9 : decode cX11_seam 9 = .ok (.bipush 6, 2) := by decide +kernel
theorem dX11_seam_11 : decode cX11_seam 11 = .ok (.iconst 0, 1) := by decide +kernel
theorem dX11_seam_12 : decode cX11_seam 12 = .ok (.iastore, 1) := by decide +kernel
theorem dX11_seam_13 : decode cX11_seam 13 = .ok (.iconst 0, 1) := by decide +kernel
theorem dX11_seam_14 : decode cX11_seam 14 = .ok (.ireturn, 1) := by decide +kernel
theorem dX11_seam_15 : decode cX11_seam 15 = .ok (.iload_n 1, 1) := by decide +kernel
theorem dX11_seam_16 : decode cX11_seam 16 = .ok (.iconst 0, 1) := by decide +kernel
theorem dX11_seam_17 : decode cX11_seam 17 = .ok (.bipush 99, 2) := by decide +kernel
theorem dX11_seam_19 : decode cX11_seam 19 = .ok (.invokestatic 62, 3) := by decide +kernel
theorem dX11_seam_22 : decode cX11_seam 22 = .ok (.ifCond .eq 36, 3) := by decide +kernel
theorem dX11_seam_25 : decode cX11_seam 25 = .ok (.iload_n 2, 1) := by decide +kernel
theorem dX11_seam_26 : decode cX11_seam 26 = .ok (.iload_n 1, 1) := by decide +kernel
theorem dX11_seam_27 : decode cX11_seam 27 = .ok (.bipush 99, 2) := by decide +kernel
theorem dX11_seam_29 : decode cX11_seam 29 = .ok (.invokestatic 62, 3) := by decide +kernel
theorem dX11_seam_32 : decode cX11_seam 32 = .ok (.ifCond .eq 26, 3) := by decide +kernel
theorem dX11_seam_35 : decode cX11_seam 35 = .ok (.iload_n 3, 1) := by decide +kernel
theorem dX11_seam_36 : decode cX11_seam 36 = .ok (.iconst 0, 1) := by decide +kernel
theorem dX11_seam_37 : decode cX11_seam 37 = .ok (.sipush 999, 3) := by decide +kernel
theorem dX11_seam_40 : decode cX11_seam 40 = .ok (.invokestatic 62, 3) := by decide +kernel
theorem dX11_seam_43 : decode cX11_seam 43 = .ok (.ifCond .eq 15, 3) := by decide +kernel
theorem dX11_seam_46 : decode cX11_seam 46 = .ok (.aload_n 0, 1) := by decide +kernel
theorem dX11_seam_47 : decode cX11_seam 47 = .ok (.getfield 7, 3) := by decide +kernel
theorem dX11_seam_50 : decode cX11_seam 50 = .ok (.bipush 6, 2) := by decide +kernel
theorem dX11_seam_52 : decode cX11_seam 52 = .ok (.iaload, 1) := by decide +kernel
theorem dX11_seam_53 : decode cX11_seam 53 = .ok (.bipush 8, 2) := by decide +kernel
theorem dX11_seam_55 : decode cX11_seam 55 = .ok (.if_icmp .ne 6, 3) := by decide +kernel
theorem dX11_seam_58 : decode cX11_seam 58 = .ok (.bipush (-2), 2) := by decide +kernel
theorem dX11_seam_60 : decode cX11_seam 60 = .ok (.ireturn, 1) := by decide +kernel
theorem dX11_seam_61 : decode cX11_seam 61 = .ok (.sipush 138, 3) := by decide +kernel
theorem dX11_seam_64 : decode cX11_seam 64 = .ok (.iconst 3, 1) := by decide +kernel
theorem dX11_seam_65 : decode cX11_seam 65 = .ok (.aload_n 0, 1) := by decide +kernel
theorem dX11_seam_66 : decode cX11_seam 66 = .ok (.getfield 7, 3) := by decide +kernel
theorem dX11_seam_69 : decode cX11_seam 69 = .ok (.bipush 6, 2) := by decide +kernel
theorem dX11_seam_71 : decode cX11_seam 71 = .ok (.iaload, 1) := by decide +kernel
theorem dX11_seam_72 : decode cX11_seam 72 = .ok (.imul, 1) := by decide +kernel
theorem dX11_seam_73 : decode cX11_seam 73 = .ok (.iadd, 1) := by decide +kernel
theorem dX11_seam_74 : decode cX11_seam 74 = .ok (.istore 4, 2) := by decide +kernel
theorem dX11_seam_76 : decode cX11_seam 76 = .ok (.aload_n 0, 1) := by decide +kernel
theorem dX11_seam_77 : decode cX11_seam 77 = .ok (.getfield 7, 3) := by decide +kernel
theorem dX11_seam_80 : decode cX11_seam 80 = .ok (.iload 4, 2) := by decide +kernel
theorem dX11_seam_82 : decode cX11_seam 82 = .ok (.iload_n 1, 1) := by decide +kernel
theorem dX11_seam_83 : decode cX11_seam 83 = .ok (.iastore, 1) := by decide +kernel
theorem dX11_seam_84 : decode cX11_seam 84 = .ok (.aload_n 0, 1) := by decide +kernel
theorem dX11_seam_85 : decode cX11_seam 85 = .ok (.getfield 7, 3) := by decide +kernel
theorem dX11_seam_88 : decode cX11_seam 88 = .ok (.iload 4, 2) := by decide +kernel
theorem dX11_seam_90 : decode cX11_seam 90 = .ok (.iconst 1, 1) := by decide +kernel
theorem dX11_seam_91 : decode cX11_seam 91 = .ok (.iadd, 1) := by decide +kernel
theorem dX11_seam_92 : decode cX11_seam 92 = .ok (.iload_n 2, 1) := by decide +kernel
theorem dX11_seam_93 : decode cX11_seam 93 = .ok (.iastore, 1) := by decide +kernel
theorem dX11_seam_94 : decode cX11_seam 94 = .ok (.aload_n 0, 1) := by decide +kernel
theorem dX11_seam_95 : decode cX11_seam 95 = .ok (.getfield 7, 3) := by decide +kernel
theorem dX11_seam_98 : decode cX11_seam 98 = .ok (.iload 4, 2) := by decide +kernel
theorem dX11_seam_100 : decode cX11_seam 100 = .ok (.iconst 2, 1) := by decide +kernel
theorem dX11_seam_101 : decode cX11_seam 101 = .ok (.iadd, 1) := by decide +kernel
theorem dX11_seam_102 : decode cX11_seam 102 = .ok (.iload_n 3, 1) := by decide +kernel
theorem dX11_seam_103 : decode cX11_seam 103 = .ok (.iastore, 1) := by decide +kernel
theorem dX11_seam_104 : decode cX11_seam 104 = .ok (.aload_n 0, 1) := by decide +kernel
theorem dX11_seam_105 : decode cX11_seam 105 = .ok (.getfield 7, 3) := by decide +kernel
theorem dX11_seam_108 : decode cX11_seam 108 = .ok (.bipush 6, 2) := by decide +kernel
theorem dX11_seam_110 : decode cX11_seam 110 = .ok (.dup2, 1) := by decide +kernel
theorem dX11_seam_111 : decode cX11_seam 111 = .ok (.iaload, 1) := by decide +kernel
theorem dX11_seam_112 : decode cX11_seam 112 = .ok (.iconst 1, 1) := by decide +kernel
theorem dX11_seam_113 : decode cX11_seam 113 = .ok (.iadd, 1) := by decide +kernel
theorem dX11_seam_114 : decode cX11_seam 114 = .ok (.iastore, 1) := by decide +kernel
theorem dX11_seam_115 : decode cX11_seam 115 = .ok (.aload_n 0, 1) := by decide +kernel
theorem dX11_seam_116 : decode cX11_seam 116 = .ok (.getfield 7, 3) := by decide +kernel
theorem dX11_seam_119 : decode cX11_seam 119 = .ok (.bipush 6, 2) := by decide +kernel
theorem dX11_seam_121 : decode cX11_seam 121 = .ok (.iaload, 1) := by decide +kernel
theorem dX11_seam_122 : decode cX11_seam 122 = .ok (.ireturn, 1) := by decide +kernel
theorem dX11_isSeamed_0 : decode cX11_isSeamed 0 = .ok (.sipush 138, 3) := by decide +kernel
theorem dX11_isSeamed_3 : decode cX11_isSeamed 3 = .ok (.istore_n 2, 1) := by decide +kernel
theorem dX11_isSeamed_4 : decode cX11_isSeamed 4 = .ok (.iload_n 2, 1) := by decide +kernel
theorem dX11_isSeamed_5 : decode cX11_isSeamed 5 = .ok (.sipush 138, 3) := by decide +kernel
theorem dX11_isSeamed_8 : decode cX11_isSeamed 8 = .ok (.iconst 3, 1) := by decide +kernel
theorem dX11_isSeamed_9 : decode cX11_isSeamed 9 = .ok (.aload_n 0, 1) := by decide +kernel
theorem dX11_isSeamed_10 : decode cX11_isSeamed 10 = .ok (.getfield 7, 3) := by decide +kernel
theorem dX11_isSeamed_13 : decode cX11_isSeamed 13 = .ok (.bipush 6, 2) := by decide +kernel
theorem dX11_isSeamed_15 : decode cX11_isSeamed 15 = .ok (.iaload, 1) := by decide +kernel
theorem dX11_isSeamed_16 : decode cX11_isSeamed 16 = .ok (.imul, 1) := by decide +kernel
theorem dX11_isSeamed_17 : decode cX11_isSeamed 17 = .ok (.iadd, 1) := by decide +kernel
theorem dX11_isSeamed_18 : decode cX11_isSeamed 18 = .ok (.if_icmp .ge 96, 3) := by decide +kernel
theorem dX11_isSeamed_21 : decode cX11_isSeamed 21 = .ok (.iconst 0, 1) := by decide +kernel
theorem dX11_isSeamed_22 : decode cX11_isSeamed 22 = .ok (.istore_n 3, 1) := by decide +kernel
theorem dX11_isSeamed_23 : decode cX11_isSeamed 23 = .ok (.iconst 0, 1) := by decide +kernel
theorem dX11_isSeamed_24 : decode cX11_isSeamed 24 = .ok (.istore 4, 2) := by decide +kernel
theorem dX11_isSeamed_26 : decode cX11_isSeamed 26 = .ok (.iload 4, 2) := by decide +kernel
theorem dX11_isSeamed_28 : decode cX11_isSeamed 28 = .ok (.aload_n 0, 1) := by decide +kernel
theorem dX11_isSeamed_29 : decode cX11_isSeamed 29 = .ok (.getfield 7, 3) := by decide +kernel
theorem dX11_isSeamed_32 : decode cX11_isSeamed 32 = .ok (.bipush 14, 2) := by decide +kernel
theorem dX11_isSeamed_34 : decode cX11_isSeamed 34 = .ok (.iaload, 1) := by decide +kernel
theorem dX11_isSeamed_35 : decode cX11_isSeamed 35 = .ok (.if_icmp .ge 59, 3) := by decide +kernel
theorem dX11_isSeamed_38 : decode cX11_isSeamed 38 = .ok (.iload_n 3, 1) := by decide +kernel
theorem dX11_isSeamed_39 : decode cX11_isSeamed 39 = .ok (.iload_n 1, 1) := by decide +kernel
theorem dX11_isSeamed_40 : decode cX11_isSeamed 40 = .ok (.iload 4, 2) := by decide +kernel
theorem dX11_isSeamed_42 : decode cX11_isSeamed 42 = .ok (.invokestatic 84, 3) := by decide +kernel
theorem dX11_isSeamed_45 : decode cX11_isSeamed 45 = .ok (.ifCond .eq 40, 3) := by decide +kernel
theorem dX11_isSeamed_48 : decode cX11_isSeamed 48 = .ok (.aload_n 0, 1) := by decide +kernel
theorem dX11_isSeamed_49 : decode cX11_isSeamed 49 = .ok (.iload 4, 2) := by decide +kernel
theorem dX11_isSeamed_51 : decode cX11_isSeamed 51 = .ok (.iconst 3, 1) := by decide +kernel
theorem dX11_isSeamed_52 : decode cX11_isSeamed 52 = .ok (.invokevirtual 66, 3) := by decide +kernel
theorem dX11_isSeamed_55 : decode cX11_isSeamed 55 = .ok (.aload_n 0, 1) := by decide +kernel
theorem dX11_isSeamed_56 : decode cX11_isSeamed 56 = .ok (.getfield 7, 3) := by decide +kernel
theorem dX11_isSeamed_59 : decode cX11_isSeamed 59 = .ok (.iload_n 2, 1) := by decide +kernel
theorem dX11_isSeamed_60 : decode cX11_isSeamed 60 = .ok (.iaload, 1) := by decide +kernel
theorem dX11_isSeamed_61 : decode cX11_isSeamed 61 = .ok (.aload_n 0, 1) := by decide +kernel
theorem dX11_isSeamed_62 : decode cX11_isSeamed 62 = .ok (.getfield 7, 3) := by decide +kernel
theorem dX11_isSeamed_65 : decode cX11_isSeamed 65 = .ok (.iload_n 2, 1) := by decide +kernel
theorem dX11_isSeamed_66 : decode cX11_isSeamed 66 = .ok (.iconst 1, 1) := by decide +kernel
theorem dX11_isSeamed_67 : decode cX11_isSeamed 67 = .ok (.iadd, 1) := by decide +kernel
theorem dX11_isSeamed_68 : decode cX11_isSeamed 68 = .ok (.iaload, 1) := by decide +kernel
theorem dX11_isSeamed_69 : decode cX11_isSeamed 69 = .ok (.invokestatic 62, 3) := by decide +kernel
theorem dX11_isSeamed_72 : decode cX11_isSeamed 72 = .ok (.ifCond .eq 13, 3) := by decide +kernel
theorem dX11_isSeamed_75 : decode cX11_isSeamed 75 = .ok (.aload_n 0, 1) := by decide +kernel
theorem dX11_isSeamed_76 : decode cX11_isSeamed 76 = .ok (.iload 4, 2) := by decide +kernel
theorem dX11_isSeamed_78 : decode cX11_isSeamed 78 = .ok (.iconst 4, 1) := by decide +kernel
theorem dX11_isSeamed_79 : decode cX11_isSeamed 79 = .ok (.invokevirtual 66, 3) := by decide +kernel
theorem dX11_isSeamed_82 : decode cX11_isSeamed 82 = .ok (.goto 4, 3) := by decide +kernel
theorem dX11_isSeamed_85 : decode cX11_isSeamed 85 = .ok (.iconst 0, 1) := by decide +kernel
theorem dX11_isSeamed_86 : decode cX11_isSeamed 86 = .ok (.iadd, 1) := by decide +kernel
theorem dX11_isSeamed_87 : decode cX11_isSeamed 87 = .ok (.istore_n 3, 1) := by decide +kernel
theorem dX11_isSeamed_88 : decode cX11_isSeamed 88 = .ok (.iinc 4 1, 3) := by decide +kernel
theorem dX11_isSeamed_91 : decode cX11_isSeamed 91 = .ok (.goto (-65), 3) := by decide +kernel
theorem dX11_isSeamed_94 : decode cX11_isSeamed 94 = .ok (.iload_n 3, 1) := by decide +kernel
theorem dX11_isSeamed_95 : decode cX11_isSeamed 95 = .ok (.aload_n 0, 1) := by decide +kernel
theorem dX11_isSeamed_96 : decode cX11_isSeamed 96 = .ok (.getfield 7, 3) := by decide +kernel
theorem dX11_isSeamed_99 : decode cX11_isSeamed 99 = .ok (.iload_n 2, 1) := by decide +kernel
theorem dX11_isSeamed_100 : decode cX11_isSeamed 100 = .ok (.iconst 2, 1) := by decide +kernel
theorem dX11_isSeamed_101 : decode cX11_isSeamed 101 = .ok (.iadd, 1) := by decide +kernel
theorem dX11_isSeamed_102 : decode cX11_isSeamed 102 = .ok (.iaload, 1) := by decide +kernel
theorem dX11_isSeamed_103 : decode cX11_isSeamed 103 = .ok (.if_icmp .eq 5, 3) := by decide +kernel
theorem dX11_isSeamed_106 : decode cX11_isSeamed 106 = .ok (.iconst 0, 1) := by decide +kernel
theorem dX11_isSeamed_107 : decode cX11_isSeamed 107 = .ok (.ireturn, 1) := by decide +kernel
theorem dX11_isSeamed_108 : decode cX11_isSeamed 108 = .ok (.iinc 2 3, 3) := by decide +kernel
theorem dX11_isSeamed_111 : decode cX11_isSeamed 111 = .ok (.goto (-107), 3) := by decide +kernel
theorem dX11_isSeamed_114 : decode cX11_isSeamed 114 = .ok (.iconst 1, 1) := by decide +kernel
theorem dX11_isSeamed_115 : decode cX11_isSeamed 115 = .ok (.ireturn, 1) := by decide +kernel
theorem dX11_laySets_0 : decode cX11_laySets 0 = .ok (.aload_n 0, 1) := by decide +kernel
theorem dX11_laySets_1 : decode cX11_laySets 1 = .ok (.iload_n 1, 1) := by decide +kernel
theorem dX11_laySets_2 : decode cX11_laySets 2 = .ok (.invokevirtual 387, 3) := by decide +kernel
theorem dX11_laySets_5 : decode cX11_laySets 5 = .ok (.istore_n 2, 1) := by decide +kernel
theorem dX11_laySets_6 : decode cX11_laySets 6 = .ok (.aload_n 0, 1) := by decide +kernel
theorem dX11_laySets_7 : decode cX11_laySets 7 = .ok (.iconst 0, 1) := by decide +kernel
theorem dX11_laySets_8 : decode cX11_laySets 8 = .ok (.putfield 415, 3) := by decide +kernel
theorem dX11_laySets_11 : decode cX11_laySets 11 = .ok (.iconst 0, 1) := by decide +kernel
theorem dX11_laySets_12 : decode cX11_laySets 12 = .ok (.istore_n 3, 1) := by decide +kernel
theorem dX11_laySets_13 : decode cX11_laySets 13 = .ok (.iload_n 3, 1) := by decide +kernel
theorem dX11_laySets_14 : decode cX11_laySets 14 = .ok (.bipush 12, 2) := by decide +kernel
theorem dX11_laySets_16 : decode cX11_laySets 16 = .ok (.if_icmp .ge 16, 3) := by decide +kernel
theorem dX11_laySets_19 : decode cX11_laySets 19 = .ok (.aload_n 0, 1) := by decide +kernel
theorem dX11_laySets_20 : decode cX11_laySets 20 = .ok (.getfield 49, 3) := by decide +kernel
theorem dX11_laySets_23 : decode cX11_laySets 23 = .ok (.iload_n 3, 1) := by decide +kernel
theorem dX11_laySets_24 : decode cX11_laySets 24 = .ok (.iconst 0, 1) := by decide +kernel
theorem dX11_laySets_25 : decode cX11_laySets 25 = .ok (.iastore, 1) := by decide +kernel
theorem dX11_laySets_26 : decode cX11_laySets 26 = .ok (.iinc 3 1, 3) := by decide +kernel
theorem dX11_laySets_29 : decode cX11_laySets 29 = .ok (.goto (-16), 3) := by decide +kernel
theorem dX11_laySets_32 : decode cX11_laySets 32 = .ok (.iconst 0, 1) := by decide +kernel
theorem dX11_laySets_33 : decode cX11_laySets 33 = .ok (.istore_n 3, 1) := by decide +kernel
theorem dX11_laySets_34 : decode cX11_laySets 34 = .ok (.iload_n 3, 1) := by decide +kernel
theorem dX11_laySets_35 : decode cX11_laySets 35 = .ok (.iload_n 2, 1) := by decide +kernel
theorem dX11_laySets_36 : decode cX11_laySets 36 = .ok (.if_icmp .gt 70, 3) := by decide +kernel
theorem dX11_laySets_39 : decode cX11_laySets 39 = .ok (.iload_n 3, 1) := by decide +kernel
theorem dX11_laySets_40 : decode cX11_laySets 40 = .ok (.iload_n 2, 1) := by decide +kernel
theorem dX11_laySets_41 : decode cX11_laySets 41 = .ok (.iconst (-1), 1) := by decide +kernel
theorem dX11_laySets_42 : decode cX11_laySets 42 = .ok (.ixor, 1) := by decide +kernel
theorem dX11_laySets_43 : decode cX11_laySets 43 = .ok (.iand, 1) := by decide +kernel
theorem dX11_laySets_44 : decode cX11_laySets 44 = .ok (.ifCond .ne 56, 3) := by decide +kernel
theorem dX11_laySets_47 : decode cX11_laySets 47 = .ok (.aload_n 0, 1) := by decide +kernel
theorem dX11_laySets_48 : decode cX11_laySets 48 = .ok (.iload_n 3, 1) := by decide +kernel
theorem dX11_laySets_49 : decode cX11_laySets 49 = .ok (.invokevirtual 418, 3) := by decide +kernel
theorem dX11_laySets_52 : decode cX11_laySets 52 = .ok (.ifCond .ne 6, 3) := by decide +kernel
theorem dX11_laySets_55 : decode cX11_laySets 55 = .ok (.goto 45, 3) := by decide +kernel
theorem dX11_laySets_58 : decode cX11_laySets 58 = .ok (.aload_n 0, 1) := by decide +kernel
theorem dX11_laySets_59 : decode cX11_laySets 59 = .ok (.dup, 1) := by decide +kernel
theorem dX11_laySets_60 : decode cX11_laySets 60 = .ok (.getfield 415, 3) := by decide +kernel
theorem dX11_laySets_63 : decode cX11_laySets 63 = .ok (.iconst 1, 1) := by decide +kernel
theorem dX11_laySets_64 : decode cX11_laySets 64 = .ok (.iadd, 1) := by decide +kernel
theorem dX11_laySets_65 : decode cX11_laySets 65 = .ok (.putfield 415, 3) := by decide +kernel
theorem dX11_laySets_68 : decode cX11_laySets 68 = .ok (.iconst 0, 1) := by decide +kernel
theorem dX11_laySets_69 : decode cX11_laySets 69 = .ok (.istore 4, 2) := by decide +kernel
theorem dX11_laySets_71 : decode cX11_laySets 71 = .ok (.iload 4, 2) := by decide +kernel
theorem dX11_laySets_73 : decode cX11_laySets 73 = .ok (.bipush 12, 2) := by decide +kernel
theorem dX11_laySets_75 : decode cX11_laySets 75 = .ok (.if_icmp .ge 25, 3) := by decide +kernel
theorem dX11_laySets_78 : decode cX11_laySets 78 = .ok (.aload_n 0, 1) := by decide +kernel
theorem dX11_laySets_79 : decode cX11_laySets 79 = .ok (.getfield 49, 3) := by decide +kernel
theorem dX11_laySets_82 : decode cX11_laySets 82 = .ok (.iload 4, 2) := by decide +kernel
theorem dX11_laySets_84 : decode cX11_laySets 84 = .ok (.dup2, 1) := by decide +kernel
theorem dX11_laySets_85 : decode cX11_laySets 85 = .ok (.iaload, 1) := by decide +kernel
theorem dX11_laySets_86 : decode cX11_laySets 86 = .ok (.iload_n 3, 1) := by decide +kernel
theorem dX11_laySets_87 : decode cX11_laySets 87 = .ok (.iload 4, 2) := by decide +kernel
theorem dX11_laySets_89 : decode cX11_laySets 89 = .ok (.ishr, 1) := by decide +kernel
theorem dX11_laySets_90 : decode cX11_laySets 90 = .ok (.iconst 1, 1) := by decide +kernel
theorem dX11_laySets_91 : decode cX11_laySets 91 = .ok (.iand, 1) := by decide +kernel
theorem dX11_laySets_92 : decode cX11_laySets 92 = .ok (.iadd, 1) := by decide +kernel
theorem dX11_laySets_93 : decode cX11_laySets 93 = .ok (.iastore, 1) := by decide +kernel
theorem dX11_laySets_94 : decode cX11_laySets 94 = .ok (.iinc 4 1, 3) := by decide +kernel
theorem dX11_laySets_97 : decode cX11_laySets 97 = .ok (.goto (-26), 3) := by decide +kernel
theorem dX11_laySets_100 : decode cX11_laySets 100 = .ok (.iinc 3 1, 3) := by decide +kernel
theorem dX11_laySets_103 : decode cX11_laySets 103 = .ok (.goto (-69), 3) := by decide +kernel
theorem dX11_laySets_106 : decode cX11_laySets 106 = .ok (.return_, 1) := by decide +kernel
theorem dX11_sets_0 : decode cX11_sets 0 = .ok (.aload_n 0, 1) := by decide +kernel
theorem dX11_sets_1 : decode cX11_sets 1 = .ok (.iload_n 1, 1) := by decide +kernel
theorem dX11_sets_2 : decode cX11_sets 2 = .ok (.invokevirtual 74, 3) := by decide +kernel
theorem dX11_sets_5 : decode cX11_sets 5 = .ok (.ifCond .eq 12, 3) := by decide +kernel
theorem dX11_sets_8 : decode cX11_sets 8 = .ok (.iload_n 2, 1) := by decide +kernel
theorem dX11_sets_9 : decode cX11_sets 9 = .ok (.iconst 0, 1) := by decide +kernel
theorem dX11_sets_10 : decode cX11_sets 10 = .ok (.iconst 2, 1) := by decide +kernel
theorem dX11_sets_11 : decode cX11_sets 11 = .ok (.invokestatic 62, 3) := by decide +kernel
theorem dX11_sets_14 : decode cX11_sets 14 = .ok (.ifCond .ne 5, 3) := by decide +kernel
theorem dX11_sets_17 : decode cX11_sets 17 = .ok (.iconst (-1), 1) := by decide +kernel
theorem dX11_sets_18 : decode cX11_sets 18 = .ok (.ireturn, 1) := by decide +kernel
theorem dX11_sets_19 : decode cX11_sets 19 = .ok (.aload_n 0, 1) := by decide +kernel
theorem dX11_sets_20 : decode cX11_sets 20 = .ok (.iload_n 1, 1) := by decide +kernel
theorem dX11_sets_21 : decode cX11_sets 21 = .ok (.invokevirtual 421, 3) := by decide +kernel
theorem dX11_sets_24 : decode cX11_sets 24 = .ok (.iconst 0, 1) := by decide +kernel
theorem dX11_sets_25 : decode cX11_sets 25 = .ok (.istore_n 3, 1) := by decide +kernel
theorem dX11_sets_26 : decode cX11_sets 26 = .ok (.iconst 0, 1) := by decide +kernel
theorem dX11_sets_27 : decode cX11_sets 27 = .ok (.istore 4, 2) := by decide +kernel
theorem dX11_sets_29 : decode cX11_sets 29 = .ok (.iload 4, 2) := by decide +kernel
theorem dX11_sets_31 : decode cX11_sets 31 = .ok (.aload_n 0, 1) := by decide +kernel
theorem dX11_sets_32 : decode cX11_sets 32 = .ok (.getfield 7, 3) := by decide +kernel
theorem dX11_sets_35 : decode cX11_sets 35 = .ok (.bipush 14, 2) := by decide +kernel
theorem dX11_sets_37 : decode cX11_sets 37 = .ok (.iaload, 1) := by decide +kernel
theorem dX11_sets_38 : decode cX11_sets 38 = .ok (.if_icmp .ge 63, 3) := by decide +kernel
theorem dX11_sets_41 : decode cX11_sets 41 = .ok (.aload_n 0, 1) := by decide +kernel
theorem dX11_sets_42 : decode cX11_sets 42 = .ok (.getfield 415, 3) := by decide +kernel
theorem dX11_sets_45 : decode cX11_sets 45 = .ok (.ifCond .le 56, 3) := by decide +kernel
theorem dX11_sets_48 : decode cX11_sets 48 = .ok (.iload_n 3, 1) := by decide +kernel
theorem dX11_sets_49 : decode cX11_sets 49 = .ok (.aload_n 0, 1) := by decide +kernel
theorem dX11_sets_50 : decode cX11_sets 50 = .ok (.iload_n 1, 1) := by decide +kernel
theorem dX11_sets_51 : decode cX11_sets 51 = .ok (.invokevirtual 387, 3) := by decide +kernel
theorem dX11_sets_54 : decode cX11_sets 54 = .ok (.iload 4, 2) := by decide +kernel
theorem dX11_sets_56 : decode cX11_sets 56 = .ok (.invokestatic 84, 3) := by decide +kernel
theorem dX11_sets_59 : decode cX11_sets 59 = .ok (.ifCond .eq 33, 3) := by decide +kernel
theorem dX11_sets_62 : decode cX11_sets 62 = .ok (.aload_n 0, 1) := by decide +kernel
theorem dX11_sets_63 : decode cX11_sets 63 = .ok (.getfield 49, 3) := by decide +kernel
theorem dX11_sets_66 : decode cX11_sets 66 = .ok (.iload 4, 2) := by decide +kernel
theorem dX11_sets_68 : decode cX11_sets 68 = .ok (.iaload, 1) := by decide +kernel
theorem dX11_sets_69 : decode cX11_sets 69 = .ok (.iload_n 2, 1) := by decide +kernel
theorem dX11_sets_70 : decode cX11_sets 70 = .ok (.iconst 1, 1) := by decide +kernel
theorem dX11_sets_71 : decode cX11_sets 71 = .ok (.if_icmp .ne 10, 3) := by decide +kernel
theorem dX11_sets_74 : decode cX11_sets 74 = .ok (.aload_n 0, 1) := by decide +kernel
theorem dX11_sets_75 : decode cX11_sets 75 = .ok (.getfield 415, 3) := by decide +kernel
theorem dX11_sets_78 : decode cX11_sets 78 = .ok (.goto 4, 3) := by decide +kernel
theorem dX11_sets_81 : decode cX11_sets 81 = .ok (.iconst 0, 1) := by decide +kernel
theorem dX11_sets_82 : decode cX11_sets 82 = .ok (.if_icmp .ne 10, 3) := by decide +kernel
theorem dX11_sets_85 : decode cX11_sets 85 = .ok (.iconst 1, 1) := by decide +kernel
theorem dX11_sets_86 : decode cX11_sets 86 = .ok (.iload 4, 2) := by decide +kernel
theorem dX11_sets_88 : decode cX11_sets 88 = .ok (.ishl, 1) := by decide +kernel
theorem dX11_sets_89 : decode cX11_sets 89 = .ok (.goto 4, 3) := by decide +kernel
theorem dX11_sets_92 : decode cX11_sets 92 = .ok (.iconst 0, 1) := by decide +kernel
theorem dX11_sets_93 : decode cX11_sets 93 = .ok (.ior, 1) := by decide +kernel
theorem dX11_sets_94 : decode cX11_sets 94 = .ok (.istore_n 3, 1) := by decide +kernel
theorem dX11_sets_95 : decode cX11_sets 95 = .ok (.iinc 4 1, 3) := by decide +kernel
theorem dX11_sets_98 : decode cX11_sets 98 = .ok (.goto (-69), 3) := by decide +kernel
theorem dX11_sets_101 : decode cX11_sets 101 = .ok (.iload_n 2, 1) := by decide +kernel
theorem dX11_sets_102 : decode cX11_sets 102 = .ok (.ifCond .ne 10, 3) := by decide +kernel
theorem dX11_sets_105 : decode cX11_sets 105 = .ok (.aload_n 0, 1) := by decide +kernel
theorem dX11_sets_106 : decode cX11_sets 106 = .ok (.getfield 415, 3) := by decide +kernel
theorem dX11_sets_109 : decode cX11_sets 109 = .ok (.goto 4, 3) := by decide +kernel
theorem dX11_sets_112 : decode cX11_sets 112 = .ok (.iload_n 3, 1) := by decide +kernel
theorem dX11_sets_113 : decode cX11_sets 113 = .ok (.ireturn, 1) := by decide +kernel
theorem dX11_next_0 : decode cX11_next 0 = .ok (.aload_n 0, 1) := by decide +kernel
theorem dX11_next_1 : decode cX11_next 1 = .ok (.iload_n 1, 1) := by decide +kernel
theorem dX11_next_2 : decode cX11_next 2 = .ok (.invokevirtual 74, 3) := by decide +kernel
theorem dX11_next_5 : decode cX11_next 5 = .ok (.ifCond .ne 5, 3) := by decide +kernel
theorem dX11_next_8 : decode cX11_next 8 = .ok (.iconst (-1), 1) := by decide +kernel
theorem dX11_next_9 : decode cX11_next 9 = .ok (.ireturn, 1) := by decide +kernel
theorem dX11_next_10 : decode cX11_next 10 = .ok (.aload_n 0, 1) := by decide +kernel
theorem dX11_next_11 : decode cX11_next 11 = .ok (.iload_n 1, 1) := by decide +kernel
theorem dX11_next_12 : decode cX11_next 12 = .ok (.invokevirtual 421, 3) := by decide +kernel
theorem dX11_next_15 : decode cX11_next 15 = .ok (.iconst (-1), 1) := by decide +kernel
theorem dX11_next_16 : decode cX11_next 16 = .ok (.istore_n 2, 1) := by decide +kernel
theorem dX11_next_17 : decode cX11_next 17 = .ok (.ldc_w 408, 3) := by decide +kernel
theorem dX11_next_20 : decode cX11_next 20 = .ok (.istore_n 3, 1) := by decide +kernel
theorem dX11_next_21 : decode cX11_next 21 = .ok (.iconst 0, 1) := by decide +kernel
theorem dX11_next_22 : decode cX11_next 22 = .ok (.istore 4, 2) := by decide +kernel
theorem dX11_next_24 : decode cX11_next 24 = .ok (.iload 4, 2) := by decide +kernel
theorem dX11_next_26 : decode cX11_next 26 = .ok (.aload_n 0, 1) := by decide +kernel
theorem dX11_next_27 : decode cX11_next 27 = .ok (.getfield 7, 3) := by decide +kernel
theorem dX11_next_30 : decode cX11_next 30 = .ok (.bipush 14, 2) := by decide +kernel
theorem dX11_next_32 : decode cX11_next 32 = .ok (.iaload, 1) := by decide +kernel
