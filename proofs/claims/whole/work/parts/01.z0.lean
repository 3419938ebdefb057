theorem dX0_init_0 : decode cX0_init 0 = .ok (.aload_n 0, 1) := by decide +kernel
theorem dX0_init_1 : decode cX0_init 1 = .ok (.invokespecial 3, 3) := by decide +kernel
theorem dX0_init_4 : decode cX0_init 4 = .ok (.aload_n 0, 1) := by decide +kernel
theorem dX0_init_5 : decode cX0_init 5 = .ok (.bipush 64, 2) := by decide +kernel
theorem dX0_init_7 : decode cX0_init 7 = .ok (.newarray .int, 2) := by decide +kernel
theorem dX0_init_9 : decode cX0_init 9 = .ok (.putfield 9, 3) := by decide +kernel
theorem dX0_init_12 : decode cX0_init 12 = .ok (.return_, 1) := by decide +kernel
theorem dX0_ask_0 : decode cX0_ask 0 = .ok (.aload_n 0, 1) := by decide +kernel
theorem dX0_ask_1 : decode cX0_ask 1 = .ok (.iconst 0, 1) := by decide +kernel
theorem dX0_ask_2 : decode cX0_ask 2 = .ok (.putfield 15, 3) := by decide +kernel
theorem dX0_ask_5 : decode cX0_ask 5 = .ok (.iload_n 2, 1) := by decide +kernel
theorem dX0_ask_6 : decode cX0_ask 6 = .ok (.ifCond .lt 17, 3) := by decide +kernel
theorem dX0_ask_9 : decode cX0_ask 9 = .ok (.iload_n 2, 1) := by decide +kernel
theorem dX0_ask_10 : decode cX0_ask 10 = .ok (.iconst 3, 1) := by decide +kernel
theorem dX0_ask_11 : decode cX0_ask 11 = .ok (.if_icmp .ge 12, 3) := by decide +kernel
theorem dX0_ask_14 : decode cX0_ask 14 = .ok (.aload_n 1, 1) := by decide +kernel
theorem dX0_ask_15 : decode cX0_ask 15 = .ok (.getfield 19, 3) := by decide +kernel
theorem dX0_ask_18 : decode cX0_ask 18 = .ok (.iload_n 2, 1) := by decide +kernel
theorem dX0_ask_19 : decode cX0_ask 19 = .ok (.iaload, 1) := by decide +kernel
theorem dX0_ask_20 : decode cX0_ask 20 = .ok (.goto 4, 3) := by decide +kernel
theorem dX0_ask_23 : decode cX0_ask 23 = .ok (.iconst (-1), 1) := by decide +kernel
theorem dX0_ask_24 : decode cX0_ask 24 = .ok (.istore 5, 2) := by decide +kernel
theorem dX0_ask_26 : decode cX0_ask 26 = .ok (.iconst 0, 1) := by decide +kernel
theorem dX0_ask_27 : decode cX0_ask 27 = .ok (.istore 6, 2) := by decide +kernel
theorem dX0_ask_29 : decode cX0_ask 29 = .ok (.iload 6, 2) := by decide +kernel
theorem dX0_ask_31 : decode cX0_ask 31 = .ok (.sipush 300, 3) := by decide +kernel
theorem dX0_ask_34 : decode cX0_ask 34 = .ok (.if_icmp .ge 207, 3) := by decide +kernel
theorem dX0_ask_37 : decode cX0_ask 37 = .ok (.iload 5, 2) := by decide +kernel
theorem dX0_ask_39 : decode cX0_ask 39 = .ok (.ifCond .lt 202, 3) := by decide +kernel
theorem dX0_ask_42 : decode cX0_ask 42 = .ok (.iload 5, 2) := by decide +kernel
theorem dX0_ask_44 : decode cX0_ask 44 = .ok (.aload_n 1, 1) := by decide +kernel
theorem dX0_ask_45 : decode cX0_ask 45 = .ok (.getfield 24, 3) := by decide +kernel
theorem dX0_ask_48 : decode cX0_ask 48 = .ok (.if_icmp .ge 193, 3) := by decide +kernel
theorem dX0_ask_51 : decode cX0_ask 51 = .ok (.aload_n 1, 1) := by decide +kernel
theorem dX0_ask_52 : decode cX0_ask 52 = .ok (.getfield 27, 3) := by decide +kernel
theorem dX0_ask_55 : decode cX0_ask 55 = .ok (.iload 5, 2) := by decide +kernel
theorem dX0_ask_57 : decode cX0_ask 57 = .ok (.iaload, 1) := by decide +kernel
theorem dX0_ask_58 : decode cX0_ask 58 = .ok (.bipush 63, 2) := by decide +kernel
theorem dX0_ask_60 : decode cX0_ask 60 = .ok (.iand, 1) := by decide +kernel
theorem dX0_ask_61 : decode cX0_ask 61 = .ok (.istore 7, 2) := by decide +kernel
theorem dX0_ask_63 : decode cX0_ask 63 = .ok (.aload_n 1, 1) := by decide +kernel
theorem dX0_ask_64 : decode cX0_ask 64 = .ok (.getfield 27, 3) := by decide +kernel
theorem dX0_ask_67 : decode cX0_ask 67 = .ok (.iload 5, 2) := by decide +kernel
theorem dX0_ask_69 : decode cX0_ask 69 = .ok (.iaload, 1) := by decide +kernel
theorem dX0_ask_70 : decode cX0_ask 70 = .ok (.bipush 6, 2) := by decide +kernel
theorem dX0_ask_72 : decode cX0_ask 72 = .ok (.ishr, 1) := by decide +kernel
theorem dX0_ask_73 : decode cX0_ask 73 = .ok (.istore 8, 2) := by decide +kernel
theorem dX0_ask_75 : decode cX0_ask 75 = .ok (.iinc 5 1, 3) := by decide +kernel
theorem dX0_ask_78 : decode cX0_ask 78 = .ok (.iload 7, 2) := by decide +kernel
theorem dX0_ask_80 : decode cX0_ask 80 = .ok (.iconst 5, 1) := by decide +kernel
theorem dX0_ask_81 : decode cX0_ask 81 = .ok (.if_icmp .ne 9, 3) := by decide +kernel
theorem dX0_ask_84 : decode cX0_ask 84 = .ok (.iconst (-1), 1) := by decide +kernel
theorem dX0_ask_85 : decode cX0_ask 85 = .ok (.istore 5, 2) := by decide +kernel
theorem dX0_ask_87 : decode cX0_ask 87 = .ok (.goto 148, 3) := by decide +kernel
theorem dX0_ask_90 : decode cX0_ask 90 = .ok (.iload 7, 2) := by decide +kernel
theorem dX0_ask_92 : decode cX0_ask 92 = .ok (.bipush 39, 2) := by decide +kernel
theorem dX0_ask_94 : decode cX0_ask 94 = .ok (.if_icmp .eq 17, 3) := by decide +kernel
theorem dX0_ask_97 : decode cX0_ask 97 = .ok (.iload 7, 2) := by decide +kernel
theorem dX0_ask_99 : decode cX0_ask 99 = .ok (.bipush 38, 2) := by decide +kernel
theorem dX0_ask_101 : decode cX0_ask 101 = .ok (.if_icmp .ne 17, 3) := by decide +kernel
theorem dX0_ask_104 : decode cX0_ask 104 = .ok (.aload_n 0, 1) := by decide +kernel
theorem dX0_ask_105 : decode cX0_ask 105 = .ok (.invokevirtual 30, 3) := by decide +kernel
theorem dX0_ask_108 : decode cX0_ask 108 = .ok (.ifCond .ne 10, 3) := by decide +kernel
theorem dX0_ask_111 : decode cX0_ask 111 = .ok (.iload 8, 2) := by decide +kernel
theorem dX0_ask_113 : decode cX0_ask 113 = .ok (.istore 5, 2) := by decide +kernel
theorem dX0_ask_115 : decode cX0_ask 115 = .ok (.goto 120, 3) := by decide +kernel
theorem dX0_ask_118 : decode cX0_ask 118 = .ok (.iload 7, 2) := by decide +kernel
theorem dX0_ask_120 : decode cX0_ask 120 = .ok (.iconst 2, 1) := by decide +kernel
theorem dX0_ask_121 : decode cX0_ask 121 = .ok (.if_icmp .ne 12, 3) := by decide +kernel
theorem dX0_ask_124 : decode cX0_ask 124 = .ok (.aload_n 0, 1) := by decide +kernel
theorem dX0_ask_125 : decode cX0_ask 125 = .ok (.iload 8, 2) := by decide +kernel
theorem dX0_ask_127 : decode cX0_ask 127 = .ok (.invokevirtual 34, 3) := by decide +kernel
theorem dX0_ask_130 : decode cX0_ask 130 = .ok (.goto 105, 3) := by decide +kernel
theorem dX0_ask_133 : decode cX0_ask 133 = .ok (.iload 7, 2) := by decide +kernel
theorem dX0_ask_135 : decode cX0_ask 135 = .ok (.bipush 25, 2) := by decide +kernel
theorem dX0_ask_137 : decode cX0_ask 137 = .ok (.if_icmp .lt 25, 3) := by decide +kernel
theorem dX0_ask_140 : decode cX0_ask 140 = .ok (.iload 7, 2) := by decide +kernel
theorem dX0_ask_142 : decode cX0_ask 142 = .ok (.bipush 33, 2) := by decide +kernel
theorem dX0_ask_144 : decode cX0_ask 144 = .ok (.if_icmp .gt 18, 3) := by decide +kernel
theorem dX0_ask_147 : decode cX0_ask 147 = .ok (.aload_n 0, 1) := by decide +kernel
theorem dX0_ask_148 : decode cX0_ask 148 = .ok (.iload 7, 2) := by decide +kernel
theorem dX0_ask_150 : decode cX0_ask 150 = .ok (.aload_n 3, 1) := by decide +kernel
theorem dX0_ask_151 : decode cX0_ask 151 = .ok (.iload 4, 2) := by decide +kernel
theorem dX0_ask_153 : decode cX0_ask 153 = .ok (.invokestatic 38, 3) := by decide +kernel
theorem dX0_ask_156 : decode cX0_ask 156 = .ok (.invokevirtual 34, 3) := by decide +kernel
theorem dX0_ask_159 : decode cX0_ask 159 = .ok (.goto 76, 3) := by decide +kernel
theorem dX0_ask_162 : decode cX0_ask 162 = .ok (.iload 7, 2) := by decide +kernel
theorem dX0_ask_164 : decode cX0_ask 164 = .ok (.bipush 41, 2) := by decide +kernel
theorem dX0_ask_166 : decode cX0_ask 166 = .ok (.if_icmp .eq 24, 3) := by decide +kernel
theorem dX0_ask_169 : decode cX0_ask 169 = .ok (.iload 7, 2) := by decide +kernel
theorem dX0_ask_171 : decode cX0_ask 171 = .ok (.bipush 44, 2) := by decide +kernel
theorem dX0_ask_173 : decode cX0_ask 173 = .ok (.if_icmp .eq 17, 3) := by decide +kernel
theorem dX0_ask_176 : decode cX0_ask 176 = .ok (.iload 7, 2) := by decide +kernel
theorem dX0_ask_178 : decode cX0_ask 178 = .ok (.bipush 35, 2) := by decide +kernel
theorem dX0_ask_180 : decode cX0_ask 180 = .ok (.if_icmp .eq 10, 3) := by decide +kernel
theorem dX0_ask_183 : decode cX0_ask 183 = .ok (.iload 7, 2) := by decide +kernel
theorem dX0_ask_185 : decode cX0_ask 185 = .ok (.bipush 36, 2) := by decide +kernel
theorem dX0_ask_187 : decode cX0_ask 187 = .ok (.if_icmp .ne 20, 3) := by decide +kernel
theorem dX0_ask_190 : decode cX0_ask 190 = .ok (.aload_n 0, 1) := by decide +kernel
theorem dX0_ask_191 : decode cX0_ask 191 = .ok (.iload 7, 2) := by decide +kernel
theorem dX0_ask_193 : decode cX0_ask 193 = .ok (.aload_n 0, 1) := by decide +kernel
theorem dX0_ask_194 : decode cX0_ask 194 = .ok (.invokevirtual 30, 3) := by decide +kernel
theorem dX0_ask_197 : decode cX0_ask 197 = .ok (.aload_n 3, 1) := by decide +kernel
theorem dX0_ask_198 : decode cX0_ask 198 = .ok (.invokestatic 42, 3) := by decide +kernel
theorem dX0_ask_201 : decode cX0_ask 201 = .ok (.invokevirtual 34, 3) := by decide +kernel
theorem dX0_ask_204 : decode cX0_ask 204 = .ok (.goto 31, 3) := by decide +kernel
theorem dX0_ask_207 : decode cX0_ask 207 = .ok (.iload 7, 2) := by decide +kernel
theorem dX0_ask_209 : decode cX0_ask 209 = .ok (.bipush 38, 2) := by decide +kernel
theorem dX0_ask_211 : decode cX0_ask 211 = .ok (.if_icmp .eq 24, 3) := by decide +kernel
theorem dX0_ask_214 : decode cX0_ask 214 = .ok (.aload_n 0, 1) := by decide +kernel
theorem dX0_ask_215 : decode cX0_ask 215 = .ok (.invokevirtual 30, 3) := by decide +kernel
theorem dX0_ask_218 : decode cX0_ask 218 = .ok (.istore 9, 2) := by decide +kernel
theorem dX0_ask_220 : decode cX0_ask 220 = .ok (.aload_n 0, 1) := by decide +kernel
theorem dX0_ask_221 : decode cX0_ask 221 = .ok (.iload 7, 2) := by decide +kernel
theorem dX0_ask_223 : decode cX0_ask 223 = .ok (.aload_n 0, 1) := by decide +kernel
theorem dX0_ask_224 : decode cX0_ask 224 = .ok (.invokevirtual 30, 3) := by decide +kernel
theorem dX0_ask_227 : decode cX0_ask 227 = .ok (.iload 9, 2) := by decide +kernel
theorem dX0_ask_229 : decode cX0_ask 229 = .ok (.invokestatic 46, 3) := by decide +kernel
theorem dX0_ask_232 : decode cX0_ask 232 = .ok (.invokevirtual 34, 3) := by decide +kernel
theorem dX0_ask_235 : decode cX0_ask 235 = .ok (.iinc 6 1, 3) := by decide +kernel
theorem dX0_ask_238 : decode cX0_ask 238 = .ok (.goto (-209), 3) := by decide +kernel
theorem dX0_ask_241 : decode cX0_ask 241 = .ok (.aload_n 0, 1) := by decide +kernel
theorem dX0_ask_242 : decode cX0_ask 242 = .ok (.invokevirtual 30, 3) := by decide +kernel
theorem dX0_ask_245 : decode cX0_ask 245 = .ok (.ireturn, 1) := by decide +kernel
theorem dX0_put_0 : decode cX0_put 0 = .ok (.aload_n 0, 1) := by decide +kernel
theorem dX0_put_1 : decode cX0_put 1 = .ok (.getfield 15, 3) := by decide +kernel
theorem dX0_put_4 : decode cX0_put 4 = .ok (.aload_n 0, 1) := by decide +kernel
theorem dX0_put_5 : decode cX0_put 5 = .ok (.getfield 9, 3) := by decide +kernel
theorem dX0_put_8 : decode cX0_put 8 = .ok (.arraylength, 1) := by decide +kernel
theorem dX0_put_9 : decode cX0_put 9 = .ok (.if_icmp .ge 23, 3) := by decide +kernel
theorem dX0_put_12 : decode cX0_put 12 = .ok (.aload_n 0, 1) := by decide +kernel
theorem dX0_put_13 : decode cX0_put 13 = .ok (.getfield 9, 3) := by decide +kernel
theorem dX0_put_16 : decode cX0_put 16 = .ok (.aload_n 0, 1) := by decide +kernel
theorem dX0_put_17 : decode cX0_put 17 = .ok (.getfield 15, 3) := by decide +kernel
theorem dX0_put_20 : decode cX0_put 20 = .ok (.iload_n 1, 1) := by decide +kernel
theorem dX0_put_21 : decode cX0_put 21 = .ok (.iastore, 1) := by decide +kernel
theorem dX0_put_22 : decode cX0_put 22 = .ok (.aload_n 0, 1) := by decide +kernel
theorem dX0_put_23 : decode cX0_put 23 = .ok (.dup, 1) := by decide +kernel
theorem dX0_put_24 : decode cX0_put 24 = .ok (.getfield 15, 3) := by decide +kernel
theorem dX0_put_27 : decode cX0_put 27 = .ok (.iconst 1, 1) := by decide +kernel
theorem dX0_put_28 : decode cX0_put 28 = .ok (.iadd, 1) := by decide +kernel
theorem dX0_put_29 : decode cX0_put 29 = .ok (.putfield 15, 3) := by decide +kernel
theorem dX0_put_32 : decode cX0_put 32 = .ok (.return_, 1) := by decide +kernel
theorem dX0_last_0 : decode cX0_last 0 = .ok (.aload_n 0, 1) := by decide +kernel
theorem dX0_last_1 : decode cX0_last 1 = .ok (.getfield 15, 3) := by decide +kernel
theorem dX0_last_4 : decode cX0_last 4 = .ok (.ifCond .gt 5, 3) := by decide +kernel
theorem dX0_last_7 : decode cX0_last 7 = .ok (.iconst 0, 1) := by decide +kernel
theorem dX0_last_8 : decode cX0_last 8 = .ok (.ireturn, 1) := by decide +kernel
theorem dX0_last_9 : decode cX0_last 9 = .ok (.aload_n 0, 1) := by decide +kernel
theorem dX0_last_10 : decode cX0_last 10 = .ok (.dup, 1) := by decide +kernel
theorem dX0_last_11 : decode cX0_last 11 = .ok (.getfield 15, 3) := by decide +kernel
theorem dX0_last_14 : decode cX0_last 14 = .ok (.iconst 1, 1) := by decide +kernel
theorem dX0_last_15 : decode cX0_last 15 = .ok (.isub, 1) := by decide +kernel
theorem dX0_last_16 : decode cX0_last 16 = .ok (.putfield 15, 3) := by decide +kernel
theorem dX0_last_19 : decode cX0_last 19 = .ok (.aload_n 0, 1) := by decide +kernel
theorem dX0_last_20 : decode cX0_last 20 = .ok (.getfield 9, 3) := by decide +kernel
theorem dX0_last_23 : decode cX0_last 23 = .ok (.aload_n 0, 1) := by decide +kernel
theorem dX0_last_24 : decode cX0_last 24 = .ok (.getfield 15, 3) := by decide +kernel
theorem dX0_last_27 : decode cX0_last 27 = .ok (.iaload, 1) := by decide +kernel
theorem dX0_last_28 : decode cX0_last 28 = .ok (.ireturn, 1) := by decide +kernel
theorem dX0_named_0 : decode cX0_named 0 = .ok (.aload_n 1, 1) := by decide +kernel
theorem dX0_named_1 : decode cX0_named 1 = .ok (.getfield 50, 3) := by decide +kernel
theorem dX0_named_4 : decode cX0_named 4 = .ok (.iload_n 2, 1) := by decide +kernel
theorem dX0_named_5 : decode cX0_named 5 = .ok (.iaload, 1) := by decide +kernel
theorem dX0_named_6 : decode cX0_named 6 = .ok (.istore_n 3, 1) := by decide +kernel
theorem dX0_named_7 : decode cX0_named 7 = .ok (.iload_n 0, 1) := by decide +kernel
theorem dX0_named_8 : decode cX0_named 8 = .ok (.tableswitch 104 25 32 #[56, 48, 61, 63, 70, 77, 87, 94], 48) := by decide +kernel
theorem dX0_named_56 : decode cX0_named 56 = .ok (.aload_n 1, 1) := by decide +kernel
theorem dX0_named_57 : decode cX0_named 57 = .ok (.getfield 55, 3) := by decide +kernel
theorem dX0_named_60 : decode cX0_named 60 = .ok (.getfield 59, 3) := by decide +kernel
theorem dX0_named_63 : decode cX0_named 63 = .ok (.ireturn, 1) := by decide +kernel
theorem dX0_named_64 : decode cX0_named 64 = .ok (.aload_n 1, 1) := by decide +kernel
theorem dX0_named_65 : decode cX0_named 65 = .ok (.getfield 64, 3) := by decide +kernel
theorem dX0_named_68 : decode cX0_named 68 = .ok (.ireturn, 1) := by decide +kernel
theorem dX0_named_69 : decode cX0_named 69 = .ok (.iload_n 3, 1) := by decide +kernel
theorem dX0_named_70 : decode cX0_named 70 = .ok (.ireturn, 1) := by decide +kernel
theorem dX0_named_71 : decode cX0_named 71 = .ok (.aload_n 1, 1) := by decide +kernel
theorem dX0_named_72 : decode cX0_named 72 = .ok (.getfield 67, 3) := by decide +kernel
theorem dX0_named_75 : decode cX0_named 75 = .ok (.iload_n 3, 1) := by decide +kernel
theorem dX0_named_76 : decode cX0_named 76 = .ok (.iaload, 1) := by decide +kernel
theorem dX0_named_77 : decode cX0_named 77 = .ok (.ireturn, 1) := by decide +kernel
theorem dX0_named_78 : decode cX0_named 78 = .ok (.aload_n 1, 1) := by decide +kernel
theorem dX0_named_79 : decode cX0_named 79 = .ok (.getfield 70, 3) := by decide +kernel
theorem dX0_named_82 : decode cX0_named 82 = .ok (.iload_n 2, 1) := by decide +kernel
theorem dX0_named_83 : decode cX0_named 83 = .ok (.iaload, 1) := by decide +kernel
theorem dX0_named_84 : decode cX0_named 84 = .ok (.ireturn, 1) := by decide +kernel
theorem dX0_named_85 : decode cX0_named 85 = .ok (.aload_n 1, 1) := by decide +kernel
theorem dX0_named_86 : decode cX0_named 86 = .ok (.getfield 55, 3) := by decide +kernel
theorem dX0_named_89 : decode cX0_named 89 = .ok (.getfield 73, 3) := by decide +kernel
theorem dX0_named_92 : decode cX0_named 92 = .ok (.iload_n 2, 1) := by decide +kernel
theorem dX0_named_93 : decode cX0_named 93 = .ok (.iaload, 1) := by decide +kernel
theorem dX0_named_94 : decode cX0_named 94 = .ok (.ireturn, 1) := by decide +kernel
theorem dX0_named_95 : decode cX0_named 95 = .ok (.aload_n 1, 1) := by decide +kernel
theorem dX0_named_96 : decode cX0_named 96 = .ok (.getfield 76, 3) := by decide +kernel
theorem dX0_named_99 : decode cX0_named 99 = .ok (.iload_n 2, 1) := by decide +kernel
theorem dX0_named_100 : decode cX0_named 100 = .ok (.iaload, 1) := by decide +kernel
theorem dX0_named_101 : decode cX0_named 101 = .ok (.ireturn, 1) := by decide +kernel
theorem dX0_named_102 : decode cX0_named 102 = .ok (.aload_n 1, 1) := by decide +kernel
theorem dX0_named_103 : decode cX0_named 103 = .ok (.getfield 55, 3) := by decide +kernel
theorem dX0_named_106 : decode cX0_named 106 = .ok (.getfield 79, 3) := by decide +kernel
theorem dX0_named_109 : decode cX0_named 109 = .ok (.iload_n 3, 1) := by decide +kernel
theorem dX0_named_110 : decode cX0_named 110 = .ok (.iaload, 1) := by decide +kernel
theorem dX0_named_111 : decode cX0_named 111 = .ok (.ireturn, 1) := by decide +kernel
theorem dX0_named_112 : decode cX0_named 112 = .ok (.aload_n 1, 1) := by decide +kernel
theorem dX0_named_113 : decode cX0_named 113 = .ok (.getfield 82, 3) := by decide +kernel
theorem dX0_named_116 : decode cX0_named 116 = .ok (.iload_n 2, 1) := by decide +kernel
theorem dX0_named_117 : decode cX0_named 117 = .ok (.iaload, 1) := by decide +kernel
theorem dX0_named_118 : decode cX0_named 118 = .ok (.invokestatic 85, 3) := by decide +kernel
theorem dX0_named_121 : decode cX0_named 121 = .ok (.ireturn, 1) := by decide +kernel
theorem dX0_ofOne_0 : decode cX0_ofOne 0 = .ok (.iload_n 0, 1) := by decide +kernel
theorem dX0_ofOne_1 : decode cX0_ofOne 1 = .ok (.lookupswitch 70 #[(36, 48), (41, 35), (44, 45)], 35) := by decide +kernel
theorem dX0_ofOne_36 : decode cX0_ofOne 36 = .ok (.iload_n 1, 1) := by decide +kernel
theorem dX0_ofOne_37 : decode cX0_ofOne 37 = .ok (.ifCond .ne 7, 3) := by decide +kernel
theorem dX0_ofOne_40 : decode cX0_ofOne 40 = .ok (.iconst 1, 1) := by decide +kernel
theorem dX0_ofOne_41 : decode cX0_ofOne 41 = .ok (.goto 4, 3) := by decide +kernel
theorem dX0_ofOne_44 : decode cX0_ofOne 44 = .ok (.iconst 0, 1) := by decide +kernel
theorem dX0_ofOne_45 : decode cX0_ofOne 45 = .ok (.ireturn, 1) := by decide +kernel
theorem dX0_ofOne_46 : decode cX0_ofOne 46 = .ok (.iload_n 1, 1) := by decide +kernel
theorem dX0_ofOne_47 : decode cX0_ofOne 47 = .ok (.ineg, 1) := by decide +kernel
theorem dX0_ofOne_48 : decode cX0_ofOne 48 = .ok (.ireturn, 1) := by decide +kernel
theorem dX0_ofOne_49 : decode cX0_ofOne 49 = .ok (.aload_n 2, 1) := by decide +kernel
theorem dX0_ofOne_50 : decode cX0_ofOne 50 = .ok (.iload_n 1, 1) := by decide +kernel
theorem dX0_ofOne_51 : decode cX0_ofOne 51 = .ok (.invokevirtual 91, 3) := by decide +kernel
theorem dX0_ofOne_54 : decode cX0_ofOne 54 = .ok (.ifCond .eq 15, 3) := by decide +kernel
theorem dX0_ofOne_57 : decode cX0_ofOne 57 = .ok (.aload_n 2, 1) := by decide +kernel
theorem dX0_ofOne_58 : decode cX0_ofOne 58 = .ok (.getfield 55, 3) := by decide +kernel
theorem dX0_ofOne_61 : decode cX0_ofOne 61 = .ok (.getfield 73, 3) := by decide +kernel
theorem dX0_ofOne_64 : decode cX0_ofOne 64 = .ok (.iload_n 1, 1) := by decide +kernel
theorem dX0_ofOne_65 : decode cX0_ofOne 65 = .ok (.iaload, 1) := by decide +kernel
theorem dX0_ofOne_66 : decode cX0_ofOne 66 = .ok (.goto 4, 3) := by decide +kernel
theorem dX0_ofOne_69 : decode cX0_ofOne 69 = .ok (.iconst 0, 1) := by decide +kernel
theorem dX0_ofOne_70 : decode cX0_ofOne 70 = .ok (.ireturn, 1) := by decide +kernel
theorem dX0_ofOne_71 : decode cX0_ofOne 71 = .ok (.iload_n 1, 1) := by decide +kernel
theorem dX0_ofOne_72 : decode cX0_ofOne 72 = .ok (.invokestatic 95, 3) := by decide +kernel
theorem dX0_ofOne_75 : decode cX0_ofOne 75 = .ok (.invokestatic 100, 3) := by decide +kernel
theorem dX0_ofOne_78 : decode cX0_ofOne 78 = .ok (.ireturn, 1) := by decide +kernel
theorem dX0_turnedAbout_0 : decode cX0_turnedAbout 0 = .ok (.iconst 0, 1) := by decide +kernel
theorem dX0_turnedAbout_1 : decode cX0_turnedAbout 1 = .ok (.istore_n 1, 1) := by decide +kernel
theorem dX0_turnedAbout_2 : decode cX0_turnedAbout 2 = .ok (.iload_n 0, 1) := by decide +kernel
theorem dX0_turnedAbout_3 : decode cX0_turnedAbout 3 = .ok (.istore_n 2, 1) := by decide +kernel
theorem dX0_turnedAbout_4 : decode cX0_turnedAbout 4 = .ok (.iload_n 2, 1) := by decide +kernel
theorem dX0_turnedAbout_5 : decode cX0_turnedAbout 5 = .ok (.ifCond .le 21, 3) := by decide +kernel
theorem dX0_turnedAbout_8 : decode cX0_turnedAbout 8 = .ok (.iload_n 1, 1) := by decide +kernel
theorem dX0_turnedAbout_9 : decode cX0_turnedAbout 9 = .ok (.bipush 10, 2) := by decide +kernel
theorem dX0_turnedAbout_11 : decode cX0_turnedAbout 11 = .ok (.imul, 1) := by decide +kernel
theorem dX0_turnedAbout_12 : decode cX0_turnedAbout 12 = .ok (.iload_n 2, 1) := by decide +kernel
theorem dX0_turnedAbout_13 : decode cX0_turnedAbout 13 = .ok (.bipush 10, 2) := by decide +kernel
theorem dX0_turnedAbout_15 : decode cX0_turnedAbout 15 = .ok (.irem, 1) := by decide +kernel
theorem dX0_turnedAbout_16 : decode cX0_turnedAbout 16 = .ok (.iadd, 1) := by decide +kernel
theorem dX0_turnedAbout_17 : decode cX0_turnedAbout 17 = .ok (.istore_n 1, 1) := by decide +kernel
theorem dX0_turnedAbout_18 : decode cX0_turnedAbout 18 = .ok (.iload_n 2, 1) := by decide +kernel
theorem dX0_turnedAbout_19 : decode cX0_turnedAbout 19 = .ok (.bipush 10, 2) := by decide +kernel
theorem dX0_turnedAbout_21 : decode cX0_turnedAbout 21 = .ok (.idiv, 1) := by decide +kernel
theorem dX0_turnedAbout_22 : decode cX0_turnedAbout 22 = .ok (.istore_n 2, 1) := by decide +kernel
theorem dX0_turnedAbout_23 : decode cX0_turnedAbout 23 = .ok (.goto (-19), 3) := by decide +kernel
theorem dX0_turnedAbout_26 : decode cX0_turnedAbout 26 = .ok (.iload_n 1, 1) := by decide +kernel
theorem dX0_turnedAbout_27 : decode cX0_turnedAbout 27 = .ok (.ireturn, 1) := by decide +kernel
theorem dX0_ofTwo_0 : decode cX0_ofTwo 0 = .ok (.iload_n 0, 1) := by decide +kernel
theorem dX0_ofTwo_1 : decode cX0_ofTwo 1 = .ok (.tableswitch 270 6 42 #[163, 171, 179, 188, 200, 211, 222, 233, 244, 255, 270, 270, 270, 270, 270, 270, 270, 270, 270, 270, 270, 270, 270, 270, 270, 270, 270, 270, 270, 270, 270, 270, 270, 270, 270, 270, 266], 163) := by decide +kernel
theorem dX0_ofTwo_164 : decode cX0_ofTwo 164 = .ok (.iload_n 1, 1) := by decide +kernel
theorem dX0_ofTwo_165 : decode cX0_ofTwo 165 = .ok (.iload_n 2, 1) := by decide +kernel
theorem dX0_ofTwo_166 : decode cX0_ofTwo 166 = .ok (.iadd, 1) := by decide +kernel
theorem dX0_ofTwo_167 : decode cX0_ofTwo 167 = .ok (.i2l, 1) := by decide +kernel
theorem dX0_ofTwo_168 : decode cX0_ofTwo 168 = .ok (.invokestatic 103, 3) := by decide +kernel
theorem dX0_ofTwo_171 : decode cX0_ofTwo 171 = .ok (.ireturn, 1) := by decide +kernel
theorem dX0_ofTwo_172 : decode cX0_ofTwo 172 = .ok (.iload_n 1, 1) := by decide +kernel
theorem dX0_ofTwo_173 : decode cX0_ofTwo 173 = .ok (.iload_n 2, 1) := by decide +kernel
theorem dX0_ofTwo_174 : decode cX0_ofTwo 174 = .ok (.isub, 1) := by decide +kernel
theorem dX0_ofTwo_175 : decode cX0_ofTwo 175 = .ok (.i2l, 1) := by decide +kernel
theorem dX0_ofTwo_176 : decode cX0_ofTwo 176 = .ok (.invokestatic 103, 3) := by decide +kernel
theorem dX0_ofTwo_179 : decode cX0_ofTwo 179 = .ok (.ireturn, 1) := by decide +kernel
theorem dX0_ofTwo_180 : decode cX0_ofTwo 180 = .ok (.iload_n 1, 1) := by decide +kernel
theorem dX0_ofTwo_181 : decode cX0_ofTwo 181 = .ok (.i2l, 1) := by decide +kernel
theorem dX0_ofTwo_182 : decode cX0_ofTwo 182 = .ok (.iload_n 2, 1) := by decide +kernel
theorem dX0_ofTwo_183 : decode cX0_ofTwo 183 = .ok (.i2l, 1) := by decide +kernel
theorem dX0_ofTwo_184 : decode cX0_ofTwo 184 = .ok (.lmul, 1) := by decide +kernel
theorem dX0_ofTwo_185 : decode cX0_ofTwo 185 = .ok (.invokestatic 103, 3) := by decide +kernel
theorem dX0_ofTwo_188 : decode cX0_ofTwo 188 = .ok (.ireturn, 1) := by decide +kernel
theorem dX0_ofTwo_189 : decode cX0_ofTwo 189 = .ok (.iload_n 2, 1) := by decide +kernel
theorem dX0_ofTwo_190 : decode cX0_ofTwo 190 = .ok (.ifCond .ne 7, 3) := by decide +kernel
theorem dX0_ofTwo_193 : decode cX0_ofTwo 193 = .ok (.iconst 0, 1) := by decide +kernel
theorem dX0_ofTwo_194 : decode cX0_ofTwo 194 = .ok (.goto 6, 3) := by decide +kernel
theorem dX0_ofTwo_197 : decode cX0_ofTwo 197 = .ok (.iload_n 1, 1) := by decide +kernel
theorem dX0_ofTwo_198 : decode cX0_ofTwo 198 = .ok (.iload_n 2, 1) := by decide +kernel
theorem dX0_ofTwo_199 : decode cX0_ofTwo 199 = .ok (.idiv, 1) := by decide +kernel
theorem dX0_ofTwo_200 : decode cX0_ofTwo 200 = .ok (.ireturn, 1) := by decide +kernel
theorem dX0_ofTwo_201 : decode cX0_ofTwo 201 = .ok (.iload_n 1, 1) := by decide +kernel
theorem dX0_ofTwo_202 : decode cX0_ofTwo 202 = .ok (.iload_n 2, 1) := by decide +kernel
theorem dX0_ofTwo_203 : decode cX0_ofTwo 203 = .ok (.if_icmp .ge 7, 3) := by decide +kernel
theorem dX0_ofTwo_206 : decode cX0_ofTwo 206 = .ok (.iconst 1, 1) := by decide +kernel
theorem dX0_ofTwo_207 : decode cX0_ofTwo 207 = .ok (.goto 4, 3) := by decide +kernel
theorem dX0_ofTwo_210 : decode cX0_ofTwo 210 = .ok (.iconst 0, 1) := by decide +kernel
theorem dX0_ofTwo_211 : decode cX0_ofTwo 211 = .ok (.ireturn, 1) := by decide +kernel
theorem dX0_ofTwo_212 : decode cX0_ofTwo 212 = .ok (.iload_n 1, 1) := by decide +kernel
theorem dX0_ofTwo_213 : decode cX0_ofTwo 213 = .ok (.iload_n 2, 1) := by decide +kernel
theorem dX0_ofTwo_214 : decode cX0_ofTwo 214 = .ok (.if_icmp .gt 7, 3) := by decide +kernel
theorem dX0_ofTwo_217 : decode cX0_ofTwo 217 = .ok (.iconst 1, 1) := by decide +kernel
theorem dX0_ofTwo_218 : decode cX0_ofTwo 218 = .ok (.goto 4, 3) := by decide +kernel
theorem dX0_ofTwo_221 : decode cX0_ofTwo 221 = .ok (.iconst 0, 1) := by decide +kernel
theorem dX0_ofTwo_222 : decode cX0_ofTwo 222 = .ok (.ireturn, 1) := by decide +kernel
theorem dX0_ofTwo_223 : decode cX0_ofTwo 223 = .ok (.iload_n 1, 1) := by decide +kernel
theorem dX0_ofTwo_224 : decode cX0_ofTwo 224 = .ok (.iload_n 2, 1) := by decide +kernel
theorem dX0_ofTwo_225 : decode cX0_ofTwo 225 = .ok (.if_icmp .le 7, 3) := by decide +kernel
theorem dX0_ofTwo_228 : decode cX0_ofTwo 228 = .ok (.iconst 1, 1) := by decide +kernel
theorem dX0_ofTwo_229 : decode cX0_ofTwo 229 = .ok (.goto 4, 3) := by decide +kernel
theorem dX0_ofTwo_232 : decode cX0_ofTwo 232 = .ok (.iconst 0, 1) := by decide +kernel
theorem dX0_ofTwo_233 : decode cX0_ofTwo 233 = .ok (.ireturn, 1) := by decide +kernel
theorem dX0_ofTwo_234 : decode cX0_ofTwo 234 = .ok (.iload_n 1, 1) := by decide +kernel
theorem dX0_ofTwo_235 : decode cX0_ofTwo 235 = .ok (.iload_n 2, 1) := by decide +kernel
theorem dX0_ofTwo_236 : decode cX0_ofTwo 236 = .ok (.if_icmp .lt 7, 3) := by decide +kernel
theorem dX0_ofTwo_239 : decode cX0_ofTwo 239 = .ok (.iconst 1, 1) := by decide +kernel
theorem dX0_ofTwo_240 : decode cX0_ofTwo 240 = .ok (.goto 4, 3) := by decide +kernel
theorem dX0_ofTwo_243 : decode cX0_ofTwo 243 = .ok (.iconst 0, 1) := by decide +kernel
theorem dX0_ofTwo_244 : decode cX0_ofTwo 244 = .ok (.ireturn, 1) := by decide +kernel
theorem dX0_ofTwo_245 : decode cX0_ofTwo 245 = .ok (.iload_n 1, 1) := by decide +kernel
theorem dX0_ofTwo_246 : decode cX0_ofTwo 246 = .ok (.iload_n 2, 1) := by decide +kernel
theorem dX0_ofTwo_247 : decode cX0_ofTwo 247 = .ok (.if_icmp .ne 7, 3) := by decide +kernel
theorem dX0_ofTwo_250 : decode cX0_ofTwo 250 = .ok (.iconst 1, 1) := by decide +kernel
theorem dX0_ofTwo_251 : decode cX0_ofTwo 251 = .ok (.goto 4, 3) := by decide +kernel
theorem dX0_ofTwo_254 : decode cX0_ofTwo 254 = .ok (.iconst 0, 1) := by decide +kernel
theorem dX0_ofTwo_255 : decode cX0_ofTwo 255 = .ok (.ireturn, 1) := by decide +kernel
theorem dX0_ofTwo_256 : decode cX0_ofTwo 256 = .ok (.iload_n 1, 1) := by decide +kernel
theorem dX0_ofTwo_257 : decode cX0_ofTwo 257 = .ok (.iload_n 2, 1) := by decide +kernel
theorem dX0_ofTwo_258 : decode cX0_ofTwo 258 = .ok (.if_icmp .eq 7, 3) := by decide +kernel
theorem dX0_ofTwo_261 : decode cX0_ofTwo 261 = .ok (.iconst 1, 1) := by decide +kernel
theorem dX0_ofTwo_262 : decode cX0_ofTwo 262 = .ok (.goto 4, 3) := by decide +kernel
theorem dX0_ofTwo_265 : decode cX0_ofTwo 265 = .ok (.iconst 0, 1) := by decide +kernel
theorem dX0_ofTwo_266 : decode cX0_ofTwo 266 = .ok (.ireturn, 1) := by decide +kernel
theorem dX0_ofTwo_267 : decode cX0_ofTwo 267 = .ok (.iload_n 1, 1) := by decide +kernel
theorem dX0_ofTwo_268 : decode cX0_ofTwo 268 = .ok (.iload_n 2, 1) := by decide +kernel
theorem dX0_ofTwo_269 : decode cX0_ofTwo 269 = .ok (.iand, 1) := by decide +kernel
theorem dX0_ofTwo_270 : decode cX0_ofTwo 270 = .ok (.ireturn, 1) := by decide +kernel
theorem dX0_ofTwo_271 : decode cX0_ofTwo 271 = .ok (.iload_n 1, 1) := by decide +kernel
theorem dX0_ofTwo_272 : decode cX0_ofTwo 272 = .ok (.iload_n 2, 1) := by decide +kernel
theorem dX0_ofTwo_273 : decode cX0_ofTwo 273 = .ok (.ior, 1) := by decide +kernel
theorem dX0_ofTwo_274 : decode cX0_ofTwo 274 = .ok (.ireturn, 1) := by decide +kernel
theorem dX0_kept_0 : decode cX0_kept 0 = .ok (.ldc2_w 107, 3) := by decide +kernel
theorem dX0_kept_3 : decode cX0_kept 3 = .ok (.ldc2_w 109, 3) := by decide +kernel
theorem dX0_kept_6 : decode cX0_kept 6 = .ok (.lload_n 0, 1) := by decide +kernel
theorem dX0_kept_7 : decode cX0_kept 7 = .ok (.invokestatic 111, 3) := by decide +kernel
theorem dX0_kept_10 : decode cX0_kept 10 = .ok (.invokestatic 115, 3) := by decide +kernel
theorem dX0_kept_13 : decode cX0_kept 13 = .ok (.l2i, 1) := by decide +kernel
theorem dX0_kept_14 : decode cX0_kept 14 = .ok (.ireturn, 1) := by decide +kernel
theorem dX1_init_0 : decode cX1_init 0 = .ok (.aload_n 0, 1) := by decide +kernel
theorem dX1_init_1 : decode cX1_init 1 = .ok (.invokespecial 3, 3) := by decide +kernel
theorem dX1_init_4 : decode cX1_init 4 = .ok (.aload_n 0, 1) := by decide +kernel
theorem dX1_init_5 : decode cX1_init 5 = .ok (.bipush 12, 2) := by decide +kernel
theorem dX1_init_7 : decode cX1_init 7 = .ok (.newarray .int, 2) := by decide +kernel
theorem dX1_init_9 : decode cX1_init 9 = .ok (.putfield 9, 3) := by decide +kernel
theorem dX1_init_12 : decode cX1_init 12 = .ok (.aload_n 0, 1) := by decide +kernel
theorem dX1_init_13 : decode cX1_init 13 = .ok (.bipush 12, 2) := by decide +kernel
theorem dX1_init_15 : decode cX1_init 15 = .ok (.newarray .int, 2) := by decide +kernel
theorem dX1_init_17 : decode cX1_init 17 = .ok (.putfield 15, 3) := by decide +kernel
theorem dX1_init_20 : decode cX1_init 20 = .ok (.aload_n 0, 1) := by decide +kernel
theorem dX1_init_21 : decode cX1_init 21 = .ok (.bipush 8, 2) := by decide +kernel
theorem dX1_init_23 : decode cX1_init 23 = .ok (.newarray .int, 2) := by decide +kernel
theorem dX1_init_25 : decode cX1_init 25 = .ok (.putfield 18, 3) := by decide +kernel
theorem dX1_init_28 : decode cX1_init 28 = .ok (.return_, 1) := by decide +kernel
theorem dX1_find_0 : decode cX1_find 0 = .ok (.aload_n 0, 1) := by decide +kernel
theorem dX1_find_1 : decode cX1_find 1 = .ok (.aload_n 1, 1) := by decide +kernel
theorem dX1_find_2 : decode cX1_find 2 = .ok (.putfield 21, 3) := by decide +kernel
theorem dX1_find_5 : decode cX1_find 5 = .ok (.aload_n 0, 1) := by decide +kernel
theorem dX1_find_6 : decode cX1_find 6 = .ok (.iconst 0, 1) := by decide +kernel
theorem dX1_find_7 : decode cX1_find 7 = .ok (.putfield 25, 3) := by decide +kernel
theorem dX1_find_10 : decode cX1_find 10 = .ok (.iconst 0, 1) := by decide +kernel
theorem dX1_find_11 : decode cX1_find 11 = .ok (.istore_n 3, 1) := by decide +kernel
theorem dX1_find_12 : decode cX1_find 12 = .ok (.iload_n 3, 1) := by decide +kernel
theorem dX1_find_13 : decode cX1_find 13 = .ok (.aload_n 0, 1) := by decide +kernel
theorem dX1_find_14 : decode cX1_find 14 = .ok (.getfield 21, 3) := by decide +kernel
theorem dX1_find_17 : decode cX1_find 17 = .ok (.getfield 29, 3) := by decide +kernel
theorem dX1_find_20 : decode cX1_find 20 = .ok (.getfield 35, 3) := by decide +kernel
theorem dX1_find_23 : decode cX1_find 23 = .ok (.if_icmp .ge 52, 3) := by decide +kernel
theorem dX1_find_26 : decode cX1_find 26 = .ok (.aload_n 0, 1) := by decide +kernel
theorem dX1_find_27 : decode cX1_find 27 = .ok (.getfield 21, 3) := by decide +kernel
theorem dX1_find_30 : decode cX1_find 30 = .ok (.getfield 38, 3) := by decide +kernel
theorem dX1_find_33 : decode cX1_find 33 = .ok (.iload_n 3, 1) := by decide +kernel
theorem dX1_find_34 : decode cX1_find 34 = .ok (.iaload, 1) := by decide +kernel
theorem dX1_find_35 : decode cX1_find 35 = .ok (.iload_n 2, 1) := by decide +kernel
theorem dX1_find_36 : decode cX1_find 36 = .ok (.if_icmp .ne 33, 3) := by decide +kernel
theorem dX1_find_39 : decode cX1_find 39 = .ok (.aload_n 0, 1) := by decide +kernel
theorem dX1_find_40 : decode cX1_find 40 = .ok (.getfield 9, 3) := by decide +kernel
theorem dX1_find_43 : decode cX1_find 43 = .ok (.aload_n 0, 1) := by decide +kernel
theorem dX1_find_44 : decode cX1_find 44 = .ok (.getfield 25, 3) := by decide +kernel
theorem dX1_find_47 : decode cX1_find 47 = .ok (.iload_n 3, 1) := by decide +kernel
theorem dX1_find_48 : decode cX1_find 48 = .ok (.iastore, 1) := by decide +kernel
theorem dX1_find_49 : decode cX1_find 49 = .ok (.aload_n 0, 1) := by decide +kernel
theorem dX1_find_50 : decode cX1_find 50 = .ok (.getfield 15, 3) := by decide +kernel
theorem dX1_find_53 : decode cX1_find 53 = .ok (.aload_n 0, 1) := by decide +kernel
theorem dX1_find_54 : decode cX1_find 54 = .ok (.getfield 25, 3) := by decide +kernel
theorem dX1_find_57 : decode cX1_find 57 = .ok (.iconst 0, 1) := by decide +kernel
theorem dX1_find_58 : decode cX1_find 58 = .ok (.iastore, 1) := by decide +kernel
theorem dX1_find_59 : decode cX1_find 59 = .ok (.aload_n 0, 1) := by decide +kernel
theorem dX1_find_60 : decode cX1_find 60 = .ok (.dup, 1) := by decide +kernel
theorem dX1_find_61 : decode cX1_find 61 = .ok (.getfield 25, 3) := by decide +kernel
theorem dX1_find_64 : decode cX1_find 64 = .ok (.iconst 1, 1) := by decide +kernel
theorem dX1_find_65 : decode cX1_find 65 = .ok (.iadd, 1) := by decide +kernel
theorem dX1_find_66 : decode cX1_find 66 = .ok (.putfield 25, 3) := by decide +kernel
theorem dX1_find_69 : decode cX1_find 69 = .ok (.iinc 3 1, 3) := by decide +kernel
theorem dX1_find_72 : decode cX1_find 72 = .ok (.goto (-60), 3) := by decide +kernel
theorem dX1_find_75 : decode cX1_find 75 = .ok (.aload_n 0, 1) := by decide +kernel
theorem dX1_find_76 : decode cX1_find 76 = .ok (.getfield 21, 3) := by decide +kernel
theorem dX1_find_79 : decode cX1_find 79 = .ok (.getfield 41, 3) := by decide +kernel
theorem dX1_find_82 : decode cX1_find 82 = .ok (.getfield 45, 3) := by decide +kernel
theorem dX1_find_85 : decode cX1_find 85 = .ok (.iconst 0, 1) := by decide +kernel
theorem dX1_find_86 : decode cX1_find 86 = .ok (.aload_n 0, 1) := by decide +kernel
theorem dX1_find_87 : decode cX1_find 87 = .ok (.getfield 18, 3) := by decide +kernel
theorem dX1_find_90 : decode cX1_find 90 = .ok (.iconst 0, 1) := by decide +kernel
theorem dX1_find_91 : decode cX1_find 91 = .ok (.bipush 8, 2) := by decide +kernel
theorem dX1_find_93 : decode cX1_find 93 = .ok (.invokestatic 50, 3) := by decide +kernel
theorem dX1_find_96 : decode cX1_find 96 = .ok (.aload_n 0, 1) := by decide +kernel
theorem dX1_find_97 : decode cX1_find 97 = .ok (.aload_n 0, 1) := by decide +kernel
theorem dX1_find_98 : decode cX1_find 98 = .ok (.iconst 0, 1) := by decide +kernel
theorem dX1_find_99 : decode cX1_find 99 = .ok (.invokestatic 56, 3) := by decide +kernel
theorem dX1_find_102 : decode cX1_find 102 = .ok (.putfield 60, 3) := by decide +kernel
theorem dX1_find_105 : decode cX1_find 105 = .ok (.return_, 1) := by decide +kernel
theorem dX1_findFrom_0 : decode cX1_findFrom 0 = .ok (.iload_n 1, 1) := by decide +kernel
theorem dX1_findFrom_1 : decode cX1_findFrom 1 = .ok (.aload_n 0, 1) := by decide +kernel
theorem dX1_findFrom_2 : decode cX1_findFrom 2 = .ok (.getfield 25, 3) := by decide +kernel
theorem dX1_findFrom_5 : decode cX1_findFrom 5 = .ok (.if_icmp .ge 9, 3) := by decide +kernel
theorem dX1_findFrom_8 : decode cX1_findFrom 8 = .ok (.iload_n 1, 1) := by decide +kernel
theorem dX1_findFrom_9 : decode cX1_findFrom 9 = .ok (.bipush 12, 2) := by decide +kernel
theorem dX1_findFrom_11 : decode cX1_findFrom 11 = .ok (.if_icmp .lt 16, 3) := by decide +kernel
theorem dX1_findFrom_14 : decode cX1_findFrom 14 = .ok (.aload_n 0, 1) := by decide +kernel
theorem dX1_findFrom_15 : decode cX1_findFrom 15 = .ok (.invokevirtual 63, 3) := by decide +kernel
theorem dX1_findFrom_18 : decode cX1_findFrom 18 = .ok (.ifCond .eq 7, 3) := by decide +kernel
theorem dX1_findFrom_21 : decode cX1_findFrom 21 = .ok (.iconst 1, 1) := by decide +kernel
theorem dX1_findFrom_22 : decode cX1_findFrom 22 = .ok (.goto 4, 3) := by decide +kernel
theorem dX1_findFrom_25 : decode cX1_findFrom 25 = .ok (.iconst 0, 1) := by decide +kernel
theorem dX1_findFrom_26 : decode cX1_findFrom 26 = .ok (.ireturn, 1) := by decide +kernel
theorem dX1_findFrom_27 : decode cX1_findFrom 27 = .ok (.aload_n 0, 1) := by decide +kernel
theorem dX1_findFrom_28 : decode cX1_findFrom 28 = .ok (.iload_n 1, 1) := by decide +kernel
theorem dX1_findFrom_29 : decode cX1_findFrom 29 = .ok (.iconst 1, 1) := by decide +kernel
theorem dX1_findFrom_30 : decode cX1_findFrom 30 = .ok (.iadd, 1) := by decide +kernel
theorem dX1_findFrom_31 : decode cX1_findFrom 31 = .ok (.invokestatic 56, 3) := by decide +kernel
theorem dX1_findFrom_34 : decode cX1_findFrom 34 = .ok (.istore_n 2, 1) := by decide +kernel
theorem dX1_findFrom_35 : decode cX1_findFrom 35 = .ok (.aload_n 0, 1) := by decide +kernel
theorem dX1_findFrom_36 : decode cX1_findFrom 36 = .ok (.aload_n 0, 1) := by decide +kernel
theorem dX1_findFrom_37 : decode cX1_findFrom 37 = .ok (.getfield 9, 3) := by decide +kernel
theorem dX1_findFrom_40 : decode cX1_findFrom 40 = .ok (.iload_n 1, 1) := by decide +kernel
theorem dX1_findFrom_41 : decode cX1_findFrom 41 = .ok (.iaload, 1) := by decide +kernel
theorem dX1_findFrom_42 : decode cX1_findFrom 42 = .ok (.iconst 1, 1) := by decide +kernel
theorem dX1_findFrom_43 : decode cX1_findFrom 43 = .ok (.invokevirtual 67, 3) := by decide +kernel
theorem dX1_findFrom_46 : decode cX1_findFrom 46 = .ok (.ifCond .eq 13, 3) := by decide +kernel
theorem dX1_findFrom_49 : decode cX1_findFrom 49 = .ok (.aload_n 0, 1) := by decide +kernel
theorem dX1_findFrom_50 : decode cX1_findFrom 50 = .ok (.iload_n 1, 1) := by decide +kernel
theorem dX1_findFrom_51 : decode cX1_findFrom 51 = .ok (.iconst 1, 1) := by decide +kernel
theorem dX1_findFrom_52 : decode cX1_findFrom 52 = .ok (.iadd, 1) := by decide +kernel
theorem dX1_findFrom_53 : decode cX1_findFrom 53 = .ok (.invokestatic 56, 3) := by decide +kernel
theorem dX1_findFrom_56 : decode cX1_findFrom 56 = .ok (.goto 4, 3) := by decide +kernel
theorem dX1_findFrom_59 : decode cX1_findFrom 59 = .ok (.iconst 0, 1) := by decide +kernel
theorem dX1_findFrom_60 : decode cX1_findFrom 60 = .ok (.istore_n 3, 1) := by decide +kernel
theorem dX1_findFrom_61 : decode cX1_findFrom 61 = .ok (.aload_n 0, 1) := by decide +kernel
theorem dX1_findFrom_62 : decode cX1_findFrom 62 = .ok (.aload_n 0, 1) := by decide +kernel
theorem dX1_findFrom_63 : decode cX1_findFrom 63 = .ok (.getfield 9, 3) := by decide +kernel
theorem dX1_findFrom_66 : decode cX1_findFrom 66 = .ok (.iload_n 1, 1) := by decide +kernel
theorem dX1_findFrom_67 : decode cX1_findFrom 67 = .ok (.iaload, 1) := by decide +kernel
theorem dX1_findFrom_68 : decode cX1_findFrom 68 = .ok (.iconst (-1), 1) := by decide +kernel
theorem dX1_findFrom_69 : decode cX1_findFrom 69 = .ok (.invokevirtual 67, 3) := by decide +kernel
theorem dX1_findFrom_72 : decode cX1_findFrom 72 = .ok (.pop, 1) := by decide +kernel
theorem dX1_findFrom_73 : decode cX1_findFrom 73 = .ok (.aload_n 0, 1) := by decide +kernel
theorem dX1_findFrom_74 : decode cX1_findFrom 74 = .ok (.getfield 15, 3) := by decide +kernel
theorem dX1_findFrom_77 : decode cX1_findFrom 77 = .ok (.iload_n 1, 1) := by decide +kernel
theorem dX1_findFrom_78 : decode cX1_findFrom 78 = .ok (.dup2, 1) := by decide +kernel
theorem dX1_findFrom_79 : decode cX1_findFrom 79 = .ok (.iaload, 1) := by decide +kernel
theorem dX1_findFrom_80 : decode cX1_findFrom 80 = .ok (.iload_n 3, 1) := by decide +kernel
theorem dX1_findFrom_81 : decode cX1_findFrom 81 = .ok (.iadd, 1) := by decide +kernel
theorem dX1_findFrom_82 : decode cX1_findFrom 82 = .ok (.iastore, 1) := by decide +kernel
theorem dX1_findFrom_83 : decode cX1_findFrom 83 = .ok (.iload_n 2, 1) := by decide +kernel
theorem dX1_findFrom_84 : decode cX1_findFrom 84 = .ok (.iload_n 3, 1) := by decide +kernel
theorem dX1_findFrom_85 : decode cX1_findFrom 85 = .ok (.iadd, 1) := by decide +kernel
theorem dX1_findFrom_86 : decode cX1_findFrom 86 = .ok (.ireturn, 1) := by decide +kernel
theorem dX1_nothingLeft_0 : decode cX1_nothingLeft 0 = .ok (.iconst 0, 1) := by decide +kernel
theorem dX1_nothingLeft_1 : decode cX1_nothingLeft 1 = .ok (.istore_n 1, 1) := by decide +kernel
theorem dX1_nothingLeft_2 : decode cX1_nothingLeft 2 = .ok (.iload_n 1, 1) := by decide +kernel
theorem dX1_nothingLeft_3 : decode cX1_nothingLeft 3 = .ok (.aload_n 0, 1) := by decide +kernel
theorem dX1_nothingLeft_4 : decode cX1_nothingLeft 4 = .ok (.getfield 21, 3) := by decide +kernel
theorem dX1_nothingLeft_7 : decode cX1_nothingLeft 7 = .ok (.getfield 41, 3) := by decide +kernel
theorem dX1_nothingLeft_10 : decode cX1_nothingLeft 10 = .ok (.getfield 71, 3) := by decide +kernel
theorem dX1_nothingLeft_13 : decode cX1_nothingLeft 13 = .ok (.if_icmp .ge 20, 3) := by decide +kernel
theorem dX1_nothingLeft_16 : decode cX1_nothingLeft 16 = .ok (.aload_n 0, 1) := by decide +kernel
theorem dX1_nothingLeft_17 : decode cX1_nothingLeft 17 = .ok (.getfield 18, 3) := by decide +kernel
theorem dX1_nothingLeft_20 : decode cX1_nothingLeft 20 = .ok (.iload_n 1, 1) := by decide +kernel
theorem dX1_nothingLeft_21 : decode cX1_nothingLeft 21 = .ok (.iaload, 1) := by decide +kernel
theorem dX1_nothingLeft_22 : decode cX1_nothingLeft 22 = .ok (.ifCond .eq 5, 3) := by decide +kernel
theorem dX1_nothingLeft_25 : decode cX1_nothingLeft 25 = .ok (.iconst 0, 1) := by decide +kernel
theorem dX1_nothingLeft_26 : decode cX1_nothingLeft 26 = .ok (.ireturn, 1) := by decide +kernel
theorem dX1_nothingLeft_27 : decode cX1_nothingLeft 27 = .ok (.iinc 1 1, 3) := by decide +kernel
theorem dX1_nothingLeft_30 : decode cX1_nothingLeft 30 = .ok (.goto (-28), 3) := by decide +kernel
theorem dX1_nothingLeft_33 : decode cX1_nothingLeft 33 = .ok (.iconst 1, 1) := by decide +kernel
theorem dX1_nothingLeft_34 : decode cX1_nothingLeft 34 = .ok (.ireturn, 1) := by decide +kernel
theorem dX1_take_0 : decode cX1_take 0 = .ok (.iconst 1, 1) := by decide +kernel
theorem dX1_take_1 : decode cX1_take 1 = .ok (.istore_n 3, 1) := by decide +kernel
theorem dX1_take_2 : decode cX1_take 2 = .ok (.iconst 0, 1) := by decide +kernel
theorem dX1_take_3 : decode cX1_take 3 = .ok (.istore 4, 2) := by decide +kernel
theorem dX1_take_5 : decode cX1_take 5 = .ok (.iload 4, 2) := by decide +kernel
theorem dX1_take_7 : decode cX1_take 7 = .ok (.aload_n 0, 1) := by decide +kernel
theorem dX1_take_8 : decode cX1_take 8 = .ok (.getfield 21, 3) := by decide +kernel
theorem dX1_take_11 : decode cX1_take 11 = .ok (.getfield 41, 3) := by decide +kernel
theorem dX1_take_14 : decode cX1_take 14 = .ok (.getfield 71, 3) := by decide +kernel
theorem dX1_take_17 : decode cX1_take 17 = .ok (.if_icmp .ge 98, 3) := by decide +kernel
theorem dX1_take_20 : decode cX1_take 20 = .ok (.aload_n 0, 1) := by decide +kernel
theorem dX1_take_21 : decode cX1_take 21 = .ok (.getfield 21, 3) := by decide +kernel
theorem dX1_take_24 : decode cX1_take 24 = .ok (.getfield 74, 3) := by decide +kernel
theorem dX1_take_27 : decode cX1_take 27 = .ok (.iload_n 1, 1) := by decide +kernel
theorem dX1_take_28 : decode cX1_take 28 = .ok (.iaload, 1) := by decide +kernel
theorem dX1_take_29 : decode cX1_take 29 = .ok (.aload_n 0, 1) := by decide +kernel
theorem dX1_take_30 : decode cX1_take 30 = .ok (.getfield 21, 3) := by decide +kernel
theorem dX1_take_33 : decode cX1_take 33 = .ok (.getfield 41, 3) := by decide +kernel
theorem dX1_take_36 : decode cX1_take 36 = .ok (.getfield 77, 3) := by decide +kernel
theorem dX1_take_39 : decode cX1_take 39 = .ok (.iload 4, 2) := by decide +kernel
theorem dX1_take_41 : decode cX1_take 41 = .ok (.iaload, 1) := by decide +kernel
theorem dX1_take_42 : decode cX1_take 42 = .ok (.if_icmp .lt 67, 3) := by decide +kernel
theorem dX1_take_45 : decode cX1_take 45 = .ok (.aload_n 0, 1) := by decide +kernel
theorem dX1_take_46 : decode cX1_take 46 = .ok (.getfield 21, 3) := by decide +kernel
theorem dX1_take_49 : decode cX1_take 49 = .ok (.getfield 74, 3) := by decide +kernel
theorem dX1_take_52 : decode cX1_take 52 = .ok (.iload_n 1, 1) := by decide +kernel
theorem dX1_take_53 : decode cX1_take 53 = .ok (.iaload, 1) := by decide +kernel
theorem dX1_take_54 : decode cX1_take 54 = .ok (.aload_n 0, 1) := by decide +kernel
theorem dX1_take_55 : decode cX1_take 55 = .ok (.getfield 21, 3) := by decide +kernel
theorem dX1_take_58 : decode cX1_take 58 = .ok (.getfield 41, 3) := by decide +kernel
theorem dX1_take_61 : decode cX1_take 61 = .ok (.getfield 80, 3) := by decide +kernel
theorem dX1_take_64 : decode cX1_take 64 = .ok (.iload 4, 2) := by decide +kernel
theorem dX1_take_66 : decode cX1_take 66 = .ok (.iaload, 1) := by decide +kernel
theorem dX1_take_67 : decode cX1_take 67 = .ok (.if_icmp .gt 42, 3) := by decide +kernel
theorem dX1_take_70 : decode cX1_take 70 = .ok (.aload_n 0, 1) := by decide +kernel
theorem dX1_take_71 : decode cX1_take 71 = .ok (.getfield 18, 3) := by decide +kernel
theorem dX1_take_74 : decode cX1_take 74 = .ok (.iload 4, 2) := by decide +kernel
theorem dX1_take_76 : decode cX1_take 76 = .ok (.dup2, 1) := by decide +kernel
theorem dX1_take_77 : decode cX1_take 77 = .ok (.iaload, 1) := by decide +kernel
theorem dX1_take_78 : decode cX1_take 78 = .ok (.iload_n 2, 1) := by decide +kernel
theorem dX1_take_79 : decode cX1_take 79 = .ok (.aload_n 0, 1) := by decide +kernel
theorem dX1_take_80 : decode cX1_take 80 = .ok (.getfield 21, 3) := by decide +kernel
theorem dX1_take_83 : decode cX1_take 83 = .ok (.getfield 83, 3) := by decide +kernel
theorem dX1_take_86 : decode cX1_take 86 = .ok (.iload_n 1, 1) := by decide +kernel
theorem dX1_take_87 : decode cX1_take 87 = .ok (.iaload, 1) := by decide +kernel
theorem dX1_take_88 : decode cX1_take 88 = .ok (.imul, 1) := by decide +kernel
theorem dX1_take_89 : decode cX1_take 89 = .ok (.isub, 1) := by decide +kernel
theorem dX1_take_90 : decode cX1_take 90 = .ok (.iastore, 1) := by decide +kernel
theorem dX1_take_91 : decode cX1_take 91 = .ok (.iload_n 3, 1) := by decide +kernel
theorem dX1_take_92 : decode cX1_take 92 = .ok (.aload_n 0, 1) := by decide +kernel
theorem dX1_take_93 : decode cX1_take 93 = .ok (.getfield 18, 3) := by decide +kernel
theorem dX1_take_96 : decode cX1_take 96 = .ok (.iload 4, 2) := by decide +kernel
theorem dX1_take_98 : decode cX1_take 98 = .ok (.iaload, 1) := by decide +kernel
theorem dX1_take_99 : decode cX1_take 99 = .ok (.ifCond .lt 7, 3) := by decide +kernel
theorem dX1_take_102 : decode cX1_take 102 = .ok (.iconst 1, 1) := by decide +kernel
theorem dX1_take_103 : decode cX1_take 103 = .ok (.goto 4, 3) := by decide +kernel
theorem dX1_take_106 : decode cX1_take 106 = .ok (.iconst 0, 1) := by decide +kernel
theorem dX1_take_107 : decode cX1_take 107 = .ok (.iand, 1) := by decide +kernel
theorem dX1_take_108 : decode cX1_take 108 = .ok (.istore_n 3, 1) := by decide +kernel
theorem dX1_take_109 : decode cX1_take 109 = .ok (.iinc 4 1, 3) := by decide +kernel
theorem dX1_take_112 : decode cX1_take 112 = .ok (.goto (-107), 3) := by decide +kernel
theorem dX1_take_115 : decode cX1_take 115 = .ok (.iload_n 3, 1) := by decide +kernel
theorem dX1_take_116 : decode cX1_take 116 = .ok (.ireturn, 1) := by decide +kernel
theorem dX1_sure_0 : decode cX1_sure 0 = .ok (.iconst 0, 1) := by decide +kernel
theorem dX1_sure_1 : decode cX1_sure 1 = .ok (.istore_n 1, 1) := by decide +kernel
theorem dX1_sure_2 : decode cX1_sure 2 = .ok (.iconst 0, 1) := by decide +kernel
theorem dX1_sure_3 : decode cX1_sure 3 = .ok (.istore_n 2, 1) := by decide +kernel
theorem dX1_sure_4 : decode cX1_sure 4 = .ok (.iload_n 2, 1) := by decide +kernel
theorem dX1_sure_5 : decode cX1_sure 5 = .ok (.aload_n 0, 1) := by decide +kernel
theorem dX1_sure_6 : decode cX1_sure 6 = .ok (.getfield 25, 3) := by decide +kernel
theorem dX1_sure_9 : decode cX1_sure 9 = .ok (.if_icmp .ge 44, 3) := by decide +kernel
theorem dX1_sure_12 : decode cX1_sure 12 = .ok (.aload_n 0, 1) := by decide +kernel
theorem dX1_sure_13 : decode cX1_sure 13 = .ok (.getfield 60, 3) := by decide +kernel
theorem dX1_sure_16 : decode cX1_sure 16 = .ok (.ifCond .le 37, 3) := by decide +kernel
theorem dX1_sure_19 : decode cX1_sure 19 = .ok (.iload_n 1, 1) := by decide +kernel
theorem dX1_sure_20 : decode cX1_sure 20 = .ok (.aload_n 0, 1) := by decide +kernel
theorem dX1_sure_21 : decode cX1_sure 21 = .ok (.getfield 15, 3) := by decide +kernel
theorem dX1_sure_24 : decode cX1_sure 24 = .ok (.iload_n 2, 1) := by decide +kernel
theorem dX1_sure_25 : decode cX1_sure 25 = .ok (.iaload, 1) := by decide +kernel
theorem dX1_sure_26 : decode cX1_sure 26 = .ok (.aload_n 0, 1) := by decide +kernel
theorem dX1_sure_27 : decode cX1_sure 27 = .ok (.getfield 60, 3) := by decide +kernel
theorem dX1_sure_30 : decode cX1_sure 30 = .ok (.if_icmp .ne 14, 3) := by decide +kernel
theorem dX1_sure_33 : decode cX1_sure 33 = .ok (.iconst 1, 1) := by decide +kernel
theorem dX1_sure_34 : decode cX1_sure 34 = .ok (.aload_n 0, 1) := by decide +kernel
theorem dX1_sure_35 : decode cX1_sure 35 = .ok (.getfield 9, 3) := by decide +kernel
theorem dX1_sure_38 : decode cX1_sure 38 = .ok (.iload_n 2, 1) := by decide +kernel
theorem dX1_sure_39 : decode cX1_sure 39 = .ok (.iaload, 1) := by decide +kernel
theorem dX1_sure_40 : decode cX1_sure 40 = .ok (.ishl, 1) := by decide +kernel
theorem dX1_sure_41 : decode cX1_sure 41 = .ok (.goto 4, 3) := by decide +kernel
theorem dX1_sure_44 : decode cX1_sure 44 = .ok (.iconst 0, 1) := by decide +kernel
theorem dX1_sure_45 : decode cX1_sure 45 = .ok (.ior, 1) := by decide +kernel
theorem dX1_sure_46 : decode cX1_sure 46 = .ok (.istore_n 1, 1) := by decide +kernel
theorem dX1_sure_47 : decode cX1_sure 47 = .ok (.iinc 2 1, 3) := by decide +kernel
theorem dX1_sure_50 : decode cX1_sure 50 = .ok (.goto (-46), 3) := by decide +kernel
theorem dX1_sure_53 : decode cX1_sure 53 = .ok (.iload_n 1, 1) := by decide +kernel
theorem dX1_sure_54 : decode cX1_sure 54 = .ok (.ireturn, 1) := by decide +kernel
theorem dX1_never_0 : decode cX1_never 0 = .ok (.iconst 0, 1) := by decide +kernel
theorem dX1_never_1 : decode cX1_never 1 = .ok (.istore_n 1, 1) := by decide +kernel
theorem dX1_never_2 : decode cX1_never 2 = .ok (.iconst 0, 1) := by decide +kernel
theorem dX1_never_3 : decode cX1_never 3 = .ok (.istore_n 2, 1) := by decide +kernel
theorem dX1_never_4 : decode cX1_never 4 = .ok (.iload_n 2, 1) := by decide +kernel
theorem dX1_never_5 : decode cX1_never 5 = .ok (.aload_n 0, 1) := by decide +kernel
theorem dX1_never_6 : decode cX1_never 6 = .ok (.getfield 25, 3) := by decide +kernel
theorem dX1_never_9 : decode cX1_never 9 = .ok (.if_icmp .ge 40, 3) := by decide +kernel
theorem dX1_never_12 : decode cX1_never 12 = .ok (.aload_n 0, 1) := by decide +kernel
theorem dX1_never_13 : decode cX1_never 13 = .ok (.getfield 60, 3) := by decide +kernel
theorem dX1_never_16 : decode cX1_never 16 = .ok (.ifCond .le 33, 3) := by decide +kernel
theorem dX1_never_19 : decode cX1_never 19 = .ok (.iload_n 1, 1) := by decide +kernel
theorem dX1_never_20 : decode cX1_never 20 = .ok (.aload_n 0, 1) := by decide +kernel
theorem dX1_never_21 : decode cX1_never 21 = .ok (.getfield 15, 3) := by decide +kernel
theorem dX1_never_24 : decode cX1_never 24 = .ok (.iload_n 2, 1) := by decide +kernel
theorem dX1_never_25 : decode cX1_never 25 = .ok (.iaload, 1) := by decide +kernel
theorem dX1_never_26 : decode cX1_never 26 = .ok (.ifCond .ne 14, 3) := by decide +kernel
theorem dX1_never_29 : decode cX1_never 29 = .ok (.iconst 1, 1) := by decide +kernel
theorem dX1_never_30 : decode cX1_never 30 = .ok (.aload_n 0, 1) := by decide +kernel
theorem dX1_never_31 : decode cX1_never 31 = .ok (.getfield 9, 3) := by decide +kernel
theorem dX1_never_34 : decode cX1_never 34 = .ok (.iload_n 2, 1) := by decide +kernel
theorem dX1_never_35 : decode cX1_never 35 = .ok (.iaload, 1) := by decide +kernel
theorem dX1_never_36 : decode cX1_never 36 = .ok (.ishl, 1) := by decide +kernel
theorem dX1_never_37 : decode cX1_never 37 = .ok (.goto 4, 3) := by decide +kernel
theorem dX1_never_40 : decode cX1_never 40 = .ok (.iconst 0, 1) := by decide +kernel
theorem dX1_never_41 : decode cX1_never 41 = .ok (.ior, 1) := by decide +kernel
theorem dX1_never_42 : decode cX1_never 42 = .ok (.istore_n 1, 1) := by decide +kernel
theorem dX1_never_43 : decode cX1_never 43 = .ok (.iinc 2 1, 3) := by decide +kernel
theorem dX1_never_46 : decode cX1_never 46 = .ok (.goto (-42), 3) := by decide +kernel
theorem dX1_never_49 : decode cX1_never 49 = .ok (.iload_n 1, 1) := by decide +kernel
theorem dX1_never_50 : decode cX1_never 50 = .ok (.ireturn, 1) := by decide +kernel
theorem dX1_asked_0 : decode cX1_asked 0 = .ok (.iconst (-1), 1) := by decide +kernel
theorem dX1_asked_1 : decode cX1_asked 1 = .ok (.istore_n 1, 1) := by decide +kernel
theorem dX1_asked_2 : decode cX1_asked 2 = .ok (.ldc 86, 2) := by decide +kernel
theorem dX1_asked_4 : decode cX1_asked 4 = .ok (.istore_n 2, 1) := by decide +kernel
theorem dX1_asked_5 : decode cX1_asked 5 = .ok (.iconst 0, 1) := by decide +kernel
theorem dX1_asked_6 : decode cX1_asked 6 = .ok (.istore_n 3, 1) := by decide +kernel
theorem dX1_asked_7 : decode cX1_asked 7 = .ok (.iload_n 3, 1) := by decide +kernel
theorem dX1_asked_8 : decode cX1_asked 8 = .ok (.aload_n 0, 1) := by decide +kernel
theorem dX1_asked_9 : decode cX1_asked 9 = .ok (.getfield 25, 3) := by decide +kernel
theorem dX1_asked_12 : decode cX1_asked 12 = .ok (.if_icmp .ge 65, 3) := by decide +kernel
theorem dX1_asked_15 : decode cX1_asked 15 = .ok (.iconst 2, 1) := by decide +kernel
theorem dX1_asked_16 : decode cX1_asked 16 = .ok (.aload_n 0, 1) := by decide +kernel
theorem dX1_asked_17 : decode cX1_asked 17 = .ok (.getfield 15, 3) := by decide +kernel
theorem dX1_asked_20 : decode cX1_asked 20 = .ok (.iload_n 3, 1) := by decide +kernel
theorem dX1_asked_21 : decode cX1_asked 21 = .ok (.iaload, 1) := by decide +kernel
theorem dX1_asked_22 : decode cX1_asked 22 = .ok (.imul, 1) := by decide +kernel
theorem dX1_asked_23 : decode cX1_asked 23 = .ok (.aload_n 0, 1) := by decide +kernel
theorem dX1_asked_24 : decode cX1_asked 24 = .ok (.getfield 60, 3) := by decide +kernel
theorem dX1_asked_27 : decode cX1_asked 27 = .ok (.isub, 1) := by decide +kernel
theorem dX1_asked_28 : decode cX1_asked 28 = .ok (.invokestatic 87, 3) := by decide +kernel
theorem dX1_asked_31 : decode cX1_asked 31 = .ok (.istore 4, 2) := by decide +kernel
theorem dX1_asked_33 : decode cX1_asked 33 = .ok (.aload_n 0, 1) := by decide +kernel
theorem dX1_asked_34 : decode cX1_asked 34 = .ok (.getfield 15, 3) := by decide +kernel
theorem dX1_asked_37 : decode cX1_asked 37 = .ok (.iload_n 3, 1) := by decide +kernel
theorem dX1_asked_38 : decode cX1_asked 38 = .ok (.iaload, 1) := by decide +kernel
theorem dX1_asked_39 : decode cX1_asked 39 = .ok (.ifCond .le 32, 3) := by decide +kernel
theorem dX1_asked_42 : decode cX1_asked 42 = .ok (.aload_n 0, 1) := by decide +kernel
theorem dX1_asked_43 : decode cX1_asked 43 = .ok (.getfield 15, 3) := by decide +kernel
theorem dX1_asked_46 : decode cX1_asked 46 = .ok (.iload_n 3, 1) := by decide +kernel
theorem dX1_asked_47 : decode cX1_asked 47 = .ok (.iaload, 1) := by decide +kernel
theorem dX1_asked_48 : decode cX1_asked 48 = .ok (.aload_n 0, 1) := by decide +kernel
theorem dX1_asked_49 : decode cX1_asked 49 = .ok (.getfield 60, 3) := by decide +kernel
theorem dX1_asked_52 : decode cX1_asked 52 = .ok (.if_icmp .ge 19, 3) := by decide +kernel
theorem dX1_asked_55 : decode cX1_asked 55 = .ok (.iload 4, 2) := by decide +kernel
theorem dX1_asked_57 : decode cX1_asked 57 = .ok (.iload_n 2, 1) := by decide +kernel
theorem dX1_asked_58 : decode cX1_asked 58 = .ok (.if_icmp .ge 13, 3) := by decide +kernel
theorem dX1_asked_61 : decode cX1_asked 61 = .ok (.aload_n 0, 1) := by decide +kernel
theorem dX1_asked_62 : decode cX1_asked 62 = .ok (.getfield 9, 3) := by decide +kernel
theorem dX1_asked_65 : decode cX1_asked 65 = .ok (.iload_n 3, 1) := by decide +kernel
theorem dX1_asked_66 : decode cX1_asked 66 = .ok (.iaload, 1) := by decide +kernel
theorem dX1_asked_67 : decode cX1_asked 67 = .ok (.istore_n 1, 1) := by decide +kernel
theorem dX1_asked_68 : decode cX1_asked 68 = .ok (.iload 4, 2) := by decide +kernel
theorem dX1_asked_70 : decode cX1_asked 70 = .ok (.istore_n 2, 1) := by decide +kernel
theorem dX1_asked_71 : decode cX1_asked 71 = .ok (.iinc 3 1, 3) := by decide +kernel
theorem dX1_asked_74 : decode cX1_asked 74 = .ok (.goto (-67), 3) := by decide +kernel
theorem dX1_asked_77 : decode cX1_asked 77 = .ok (.iload_n 1, 1) := by decide +kernel
theorem dX1_asked_78 : decode cX1_asked 78 = .ok (.ireturn, 1) := by decide +kernel
theorem dX2_init_0 : decode cX2_init 0 = .ok (.aload_n 0, 1) := by decide +kernel
theorem dX2_init_1 : decode cX2_init 1 = .ok (.invokespecial 3, 3) := by decide +kernel
theorem dX2_init_4 : decode cX2_init 4 = .ok (.aload_n 0, 1) := by decide +kernel
theorem dX2_init_5 : decode cX2_init 5 = .ok (.bipush 8, 2) := by decide +kernel
theorem dX2_init_7 : decode cX2_init 7 = .ok (.newarray .int, 2) := by decide +kernel
theorem dX2_init_9 : decode cX2_init 9 = .ok (.putfield 9, 3) := by decide +kernel
theorem dX2_init_12 : decode cX2_init 12 = .ok (.aload_n 0, 1) := by decide +kernel
theorem dX2_init_13 : decode cX2_init 13 = .ok (.iconst 4, 1) := by decide +kernel
theorem dX2_init_14 : decode cX2_init 14 = .ok (.newarray .int, 2) := by decide +kernel
theorem dX2_init_16 : decode cX2_init 16 = .ok (.putfield 15, 3) := by decide +kernel
theorem dX2_init_19 : decode cX2_init 19 = .ok (.aload_n 0, 1) := by decide +kernel
theorem dX2_init_20 : decode cX2_init 20 = .ok (.bipush 8, 2) := by decide +kernel
theorem dX2_init_22 : decode cX2_init 22 = .ok (.newarray .int, 2) := by decide +kernel
theorem dX2_init_24 : decode cX2_init 24 = .ok (.putfield 18, 3) := by decide +kernel
theorem dX2_init_27 : decode cX2_init 27 = .ok (.return_, 1) := by decide +kernel
theorem dX2_lay_0 : decode cX2_lay 0 = .ok (.aload_n 0, 1) := by decide +kernel
theorem dX2_lay_1 : decode cX2_lay 1 = .ok (.aload_n 1, 1) := by decide +kernel
theorem dX2_lay_2 : decode cX2_lay 2 = .ok (.putfield 21, 3) := by decide +kernel
theorem dX2_lay_5 : decode cX2_lay 5 = .ok (.aload_n 0, 1) := by decide +kernel
theorem dX2_lay_6 : decode cX2_lay 6 = .ok (.iload_n 2, 1) := by decide +kernel
theorem dX2_lay_7 : decode cX2_lay 7 = .ok (.iconst 4, 1) := by decide +kernel
theorem dX2_lay_8 : decode cX2_lay 8 = .ok (.invokestatic 25, 3) := by decide +kernel
theorem dX2_lay_11 : decode cX2_lay 11 = .ok (.putfield 31, 3) := by decide +kernel
theorem dX2_lay_14 : decode cX2_lay 14 = .ok (.aload_n 0, 1) := by decide +kernel
theorem dX2_lay_15 : decode cX2_lay 15 = .ok (.ldc 35, 2) := by decide +kernel
theorem dX2_lay_17 : decode cX2_lay 17 = .ok (.putfield 36, 3) := by decide +kernel
theorem dX2_lay_20 : decode cX2_lay 20 = .ok (.iconst 0, 1) := by decide +kernel
theorem dX2_lay_21 : decode cX2_lay 21 = .ok (.istore_n 3, 1) := by decide +kernel
theorem dX2_lay_22 : decode cX2_lay 22 = .ok (.iload_n 3, 1) := by decide +kernel
theorem dX2_lay_23 : decode cX2_lay 23 = .ok (.iconst 4, 1) := by decide +kernel
theorem dX2_lay_24 : decode cX2_lay 24 = .ok (.if_icmp .ge 16, 3) := by decide +kernel
theorem dX2_lay_27 : decode cX2_lay 27 = .ok (.aload_n 0, 1) := by decide +kernel
theorem dX2_lay_28 : decode cX2_lay 28 = .ok (.getfield 15, 3) := by decide +kernel
theorem dX2_lay_31 : decode cX2_lay 31 = .ok (.iload_n 3, 1) := by decide +kernel
theorem dX2_lay_32 : decode cX2_lay 32 = .ok (.iconst 0, 1) := by decide +kernel
theorem dX2_lay_33 : decode cX2_lay 33 = .ok (.iastore, 1) := by decide +kernel
theorem dX2_lay_34 : decode cX2_lay 34 = .ok (.iinc 3 1, 3) := by decide +kernel
theorem dX2_lay_37 : decode cX2_lay 37 = .ok (.goto (-15), 3) := by decide +kernel
theorem dX2_lay_40 : decode cX2_lay 40 = .ok (.aload_n 0, 1) := by decide +kernel
theorem dX2_lay_41 : decode cX2_lay 41 = .ok (.iconst 0, 1) := by decide +kernel
theorem dX2_lay_42 : decode cX2_lay 42 = .ok (.iconst 0, 1) := by decide +kernel
theorem dX2_lay_43 : decode cX2_lay 43 = .ok (.iconst 0, 1) := by decide +kernel
theorem dX2_lay_44 : decode cX2_lay 44 = .ok (.invokestatic 39, 3) := by decide +kernel
theorem dX2_lay_47 : decode cX2_lay 47 = .ok (.return_, 1) := by decide +kernel
theorem dX2_layFrom_0 : decode cX2_layFrom 0 = .ok (.iload_n 3, 1) := by decide +kernel
theorem dX2_layFrom_1 : decode cX2_layFrom 1 = .ok (.aload_n 0, 1) := by decide +kernel
theorem dX2_layFrom_2 : decode cX2_layFrom 2 = .ok (.getfield 36, 3) := by decide +kernel
theorem dX2_layFrom_5 : decode cX2_layFrom 5 = .ok (.if_icmp .lt 4, 3) := by decide +kernel
theorem dX2_layFrom_8 : decode cX2_layFrom 8 = .ok (.return_, 1) := by decide +kernel
theorem dX2_layFrom_9 : decode cX2_layFrom 9 = .ok (.iload_n 1, 1) := by decide +kernel
theorem dX2_layFrom_10 : decode cX2_layFrom 10 = .ok (.aload_n 0, 1) := by decide +kernel
theorem dX2_layFrom_11 : decode cX2_layFrom 11 = .ok (.getfield 21, 3) := by decide +kernel
theorem dX2_layFrom_14 : decode cX2_layFrom 14 = .ok (.getfield 43, 3) := by decide +kernel
theorem dX2_layFrom_17 : decode cX2_layFrom 17 = .ok (.if_icmp .ge 9, 3) := by decide +kernel
theorem dX2_layFrom_20 : decode cX2_layFrom 20 = .ok (.iload_n 1, 1) := by decide +kernel
theorem dX2_layFrom_21 : decode cX2_layFrom 21 = .ok (.bipush 8, 2) := by decide +kernel
theorem dX2_layFrom_23 : decode cX2_layFrom 23 = .ok (.if_icmp .lt 24, 3) := by decide +kernel
theorem dX2_layFrom_26 : decode cX2_layFrom 26 = .ok (.aload_n 0, 1) := by decide +kernel
theorem dX2_layFrom_27 : decode cX2_layFrom 27 = .ok (.iload_n 3, 1) := by decide +kernel
theorem dX2_layFrom_28 : decode cX2_layFrom 28 = .ok (.putfield 36, 3) := by decide +kernel
theorem dX2_layFrom_31 : decode cX2_layFrom 31 = .ok (.aload_n 0, 1) := by decide +kernel
theorem dX2_layFrom_32 : decode cX2_layFrom 32 = .ok (.getfield 18, 3) := by decide +kernel
theorem dX2_layFrom_35 : decode cX2_layFrom 35 = .ok (.iconst 0, 1) := by decide +kernel
theorem dX2_layFrom_36 : decode cX2_layFrom 36 = .ok (.aload_n 0, 1) := by decide +kernel
theorem dX2_layFrom_37 : decode cX2_layFrom 37 = .ok (.getfield 9, 3) := by decide +kernel
theorem dX2_layFrom_40 : decode cX2_layFrom 40 = .ok (.iconst 0, 1) := by decide +kernel
theorem dX2_layFrom_41 : decode cX2_layFrom 41 = .ok (.bipush 8, 2) := by decide +kernel
theorem dX2_layFrom_43 : decode cX2_layFrom 43 = .ok (.invokestatic 48, 3) := by decide +kernel
theorem dX2_layFrom_46 : decode cX2_layFrom 46 = .ok (.return_, 1) := by decide +kernel
theorem dX2_layFrom_47 : decode cX2_layFrom 47 = .ok (.aload_n 0, 1) := by decide +kernel
theorem dX2_layFrom_48 : decode cX2_layFrom 48 = .ok (.getfield 21, 3) := by decide +kernel
theorem dX2_layFrom_51 : decode cX2_layFrom 51 = .ok (.getfield 54, 3) := by decide +kernel
theorem dX2_layFrom_54 : decode cX2_layFrom 54 = .ok (.iload_n 1, 1) := by decide +kernel
theorem dX2_layFrom_55 : decode cX2_layFrom 55 = .ok (.iaload, 1) := by decide +kernel
theorem dX2_layFrom_56 : decode cX2_layFrom 56 = .ok (.istore 4, 2) := by decide +kernel
theorem dX2_layFrom_58 : decode cX2_layFrom 58 = .ok (.iconst 0, 1) := by decide +kernel
theorem dX2_layFrom_59 : decode cX2_layFrom 59 = .ok (.istore 5, 2) := by decide +kernel
theorem dX2_layFrom_61 : decode cX2_layFrom 61 = .ok (.iload 5, 2) := by decide +kernel
theorem dX2_layFrom_63 : decode cX2_layFrom 63 = .ok (.iload_n 2, 1) := by decide +kernel
theorem dX2_layFrom_64 : decode cX2_layFrom 64 = .ok (.if_icmp .gt 76, 3) := by decide +kernel
theorem dX2_layFrom_67 : decode cX2_layFrom 67 = .ok (.iload 5, 2) := by decide +kernel
theorem dX2_layFrom_69 : decode cX2_layFrom 69 = .ok (.aload_n 0, 1) := by decide +kernel
theorem dX2_layFrom_70 : decode cX2_layFrom 70 = .ok (.getfield 31, 3) := by decide +kernel
theorem dX2_layFrom_73 : decode cX2_layFrom 73 = .ok (.if_icmp .ge 67, 3) := by decide +kernel
theorem dX2_layFrom_76 : decode cX2_layFrom 76 = .ok (.aload_n 0, 1) := by decide +kernel
theorem dX2_layFrom_77 : decode cX2_layFrom 77 = .ok (.getfield 18, 3) := by decide +kernel
theorem dX2_layFrom_80 : decode cX2_layFrom 80 = .ok (.iload_n 1, 1) := by decide +kernel
theorem dX2_layFrom_81 : decode cX2_layFrom 81 = .ok (.iload 5, 2) := by decide +kernel
theorem dX2_layFrom_83 : decode cX2_layFrom 83 = .ok (.iastore, 1) := by decide +kernel
theorem dX2_layFrom_84 : decode cX2_layFrom 84 = .ok (.aload_n 0, 1) := by decide +kernel
theorem dX2_layFrom_85 : decode cX2_layFrom 85 = .ok (.getfield 15, 3) := by decide +kernel
theorem dX2_layFrom_88 : decode cX2_layFrom 88 = .ok (.iload 5, 2) := by decide +kernel
theorem dX2_layFrom_90 : decode cX2_layFrom 90 = .ok (.dup2, 1) := by decide +kernel
theorem dX2_layFrom_91 : decode cX2_layFrom 91 = .ok (.iaload, 1) := by decide +kernel
theorem dX2_layFrom_92 : decode cX2_layFrom 92 = .ok (.iload 4, 2) := by decide +kernel
theorem dX2_layFrom_94 : decode cX2_layFrom 94 = .ok (.iadd, 1) := by decide +kernel
theorem dX2_layFrom_95 : decode cX2_layFrom 95 = .ok (.iastore, 1) := by decide +kernel
theorem dX2_layFrom_96 : decode cX2_layFrom 96 = .ok (.aload_n 0, 1) := by decide +kernel
theorem dX2_layFrom_97 : decode cX2_layFrom 97 = .ok (.iload_n 1, 1) := by decide +kernel
theorem dX2_layFrom_98 : decode cX2_layFrom 98 = .ok (.iconst 1, 1) := by decide +kernel
theorem dX2_layFrom_99 : decode cX2_layFrom 99 = .ok (.iadd, 1) := by decide +kernel
theorem dX2_layFrom_100 : decode cX2_layFrom 100 = .ok (.iload_n 2, 1) := by decide +kernel
theorem dX2_layFrom_101 : decode cX2_layFrom 101 = .ok (.iload 5, 2) := by decide +kernel
theorem dX2_layFrom_103 : decode cX2_layFrom 103 = .ok (.iconst 1, 1) := by decide +kernel
theorem dX2_layFrom_104 : decode cX2_layFrom 104 = .ok (.iadd, 1) := by decide +kernel
theorem dX2_layFrom_105 : decode cX2_layFrom 105 = .ok (.invokestatic 57, 3) := by decide +kernel
theorem dX2_layFrom_108 : decode cX2_layFrom 108 = .ok (.iload_n 3, 1) := by decide +kernel
theorem dX2_layFrom_109 : decode cX2_layFrom 109 = .ok (.aload_n 0, 1) := by decide +kernel
theorem dX2_layFrom_110 : decode cX2_layFrom 110 = .ok (.getfield 15, 3) := by decide +kernel
theorem dX2_layFrom_113 : decode cX2_layFrom 113 = .ok (.iload 5, 2) := by decide +kernel
theorem dX2_layFrom_115 : decode cX2_layFrom 115 = .ok (.iaload, 1) := by decide +kernel
theorem dX2_layFrom_116 : decode cX2_layFrom 116 = .ok (.invokestatic 57, 3) := by decide +kernel
theorem dX2_layFrom_119 : decode cX2_layFrom 119 = .ok (.invokestatic 39, 3) := by decide +kernel
theorem dX2_layFrom_122 : decode cX2_layFrom 122 = .ok (.aload_n 0, 1) := by decide +kernel
theorem dX2_layFrom_123 : decode cX2_layFrom 123 = .ok (.getfield 15, 3) := by decide +kernel
theorem dX2_layFrom_126 : decode cX2_layFrom 126 = .ok (.iload 5, 2) := by decide +kernel
theorem dX2_layFrom_128 : decode cX2_layFrom 128 = .ok (.dup2, 1) := by decide +kernel
theorem dX2_layFrom_129 : decode cX2_layFrom 129 = .ok (.iaload, 1) := by decide +kernel
theorem dX2_layFrom_130 : decode cX2_layFrom 130 = .ok (.iload 4, 2) := by decide +kernel
theorem dX2_layFrom_132 : decode cX2_layFrom 132 = .ok (.isub, 1) := by decide +kernel
theorem dX2_layFrom_133 : decode cX2_layFrom 133 = .ok (.iastore, 1) := by decide +kernel
theorem dX2_layFrom_134 : decode cX2_layFrom 134 = .ok (.iinc 5 1, 3) := by decide +kernel
theorem dX2_layFrom_137 : decode cX2_layFrom 137 = .ok (.goto (-76), 3) := by decide +kernel
theorem dX2_layFrom_140 : decode cX2_layFrom 140 = .ok (.return_, 1) := by decide +kernel
theorem dX3_init_0 : decode cX3_init 0 = .ok (.aload_n 0, 1) := by decide +kernel
theorem dX3_init_1 : decode cX3_init 1 = .ok (.invokespecial 3, 3) := by decide +kernel
theorem dX3_init_4 : decode cX3_init 4 = .ok (.aload_n 0, 1) := by decide +kernel
theorem dX3_init_5 : decode cX3_init 5 = .ok (.sipush 167, 3) := by decide +kernel
theorem dX3_init_8 : decode cX3_init 8 = .ok (.putfield 9, 3) := by decide +kernel
theorem dX3_init_11 : decode cX3_init 11 = .ok (.aload_n 0, 1) := by decide +kernel
theorem dX3_init_12 : decode cX3_init 12 = .ok (.iconst 5, 1) := by decide +kernel
theorem dX3_init_13 : decode cX3_init 13 = .ok (.newarray .int, 2) := by decide +kernel
theorem dX3_init_15 : decode cX3_init 15 = .ok (.putfield 15, 3) := by decide +kernel
theorem dX3_init_18 : decode cX3_init 18 = .ok (.aload_n 0, 1) := by decide +kernel
theorem dX3_init_19 : decode cX3_init 19 = .ok (.bipush 12, 2) := by decide +kernel
theorem dX3_init_21 : decode cX3_init 21 = .ok (.newarray .int, 2) := by decide +kernel
theorem dX3_init_23 : decode cX3_init 23 = .ok (.putfield 19, 3) := by decide +kernel
theorem dX3_init_26 : decode cX3_init 26 = .ok (.aload_n 0, 1) := by decide +kernel
theorem dX3_init_27 : decode cX3_init 27 = .ok (.bipush 12, 2) := by decide +kernel
theorem dX3_init_29 : decode cX3_init 29 = .ok (.newarray .int, 2) := by decide +kernel
theorem dX3_init_31 : decode cX3_init 31 = .ok (.putfield 22, 3) := by decide +kernel
theorem dX3_init_34 : decode cX3_init 34 = .ok (.aload_n 0, 1) := by decide +kernel
theorem dX3_init_35 : decode cX3_init 35 = .ok (.bipush 30, 2) := by decide +kernel
theorem dX3_init_37 : decode cX3_init 37 = .ok (.newarray .int, 2) := by decide +kernel
theorem dX3_init_39 : decode cX3_init 39 = .ok (.putfield 25, 3) := by decide +kernel
theorem dX3_init_42 : decode cX3_init 42 = .ok (.return_, 1) := by decide +kernel
theorem dX3_copy_0 : decode cX3_copy 0 = .ok (.aload_n 0, 1) := by decide +kernel
theorem dX3_copy_1 : decode cX3_copy 1 = .ok (.aload_n 1, 1) := by decide +kernel
theorem dX3_copy_2 : decode cX3_copy 2 = .ok (.getfield 28, 3) := by decide +kernel
theorem dX3_copy_5 : decode cX3_copy 5 = .ok (.putfield 28, 3) := by decide +kernel
theorem dX3_copy_8 : decode cX3_copy 8 = .ok (.aload_n 0, 1) := by decide +kernel
theorem dX3_copy_9 : decode cX3_copy 9 = .ok (.aload_n 1, 1) := by decide +kernel
theorem dX3_copy_10 : decode cX3_copy 10 = .ok (.getfield 9, 3) := by decide +kernel
theorem dX3_copy_13 : decode cX3_copy 13 = .ok (.putfield 9, 3) := by decide +kernel
theorem dX3_copy_16 : decode cX3_copy 16 = .ok (.aload_n 0, 1) := by decide +kernel
theorem dX3_copy_17 : decode cX3_copy 17 = .ok (.aload_n 1, 1) := by decide +kernel
theorem dX3_copy_18 : decode cX3_copy 18 = .ok (.getfield 31, 3) := by decide +kernel
theorem dX3_copy_21 : decode cX3_copy 21 = .ok (.putfield 31, 3) := by decide +kernel
theorem dX3_copy_24 : decode cX3_copy 24 = .ok (.aload_n 0, 1) := by decide +kernel
theorem dX3_copy_25 : decode cX3_copy 25 = .ok (.aload_n 1, 1) := by decide +kernel
theorem dX3_copy_26 : decode cX3_copy 26 = .ok (.getfield 34, 3) := by decide +kernel
theorem dX3_copy_29 : decode cX3_copy 29 = .ok (.putfield 34, 3) := by decide +kernel
theorem dX3_copy_32 : decode cX3_copy 32 = .ok (.aload_n 0, 1) := by decide +kernel
theorem dX3_copy_33 : decode cX3_copy 33 = .ok (.aload_n 1, 1) := by decide +kernel
theorem dX3_copy_34 : decode cX3_copy 34 = .ok (.getfield 37, 3) := by decide +kernel
theorem dX3_copy_37 : decode cX3_copy 37 = .ok (.putfield 37, 3) := by decide +kernel
theorem dX3_copy_40 : decode cX3_copy 40 = .ok (.aload_n 1, 1) := by decide +kernel
theorem dX3_copy_41 : decode cX3_copy 41 = .ok (.getfield 15, 3) := by decide +kernel
theorem dX3_copy_44 : decode cX3_copy 44 = .ok (.iconst 0, 1) := by decide +kernel
theorem dX3_copy_45 : decode cX3_copy 45 = .ok (.aload_n 0, 1) := by decide +kernel
theorem dX3_copy_46 : decode cX3_copy 46 = .ok (.getfield 15, 3) := by decide +kernel
theorem dX3_copy_49 : decode cX3_copy 49 = .ok (.iconst 0, 1) := by decide +kernel
theorem dX3_copy_50 : decode cX3_copy 50 = .ok (.iconst 5, 1) := by decide +kernel
theorem dX3_copy_51 : decode cX3_copy 51 = .ok (.invokestatic 40, 3) := by decide +kernel
theorem dX3_copy_54 : decode cX3_copy 54 = .ok (.aload_n 1, 1) := by decide +kernel
theorem dX3_copy_55 : decode cX3_copy 55 = .ok (.getfield 19, 3) := by decide +kernel
theorem dX3_copy_58 : decode cX3_copy 58 = .ok (.iconst 0, 1) := by decide +kernel
theorem dX3_copy_59 : decode cX3_copy 59 = .ok (.aload_n 0, 1) := by decide +kernel
theorem dX3_copy_60 : decode cX3_copy 60 = .ok (.getfield 19, 3) := by decide +kernel
theorem dX3_copy_63 : decode cX3_copy 63 = .ok (.iconst 0, 1) := by decide +kernel
theorem dX3_copy_64 : decode cX3_copy 64 = .ok (.bipush 12, 2) := by decide +kernel
theorem dX3_copy_66 : decode cX3_copy 66 = .ok (.invokestatic 40, 3) := by decide +kernel
theorem dX3_copy_69 : decode cX3_copy 69 = .ok (.aload_n 1, 1) := by decide +kernel
theorem dX3_copy_70 : decode cX3_copy 70 = .ok (.getfield 22, 3) := by decide +kernel
theorem dX3_copy_73 : decode cX3_copy 73 = .ok (.iconst 0, 1) := by decide +kernel
theorem dX3_copy_74 : decode cX3_copy 74 = .ok (.aload_n 0, 1) := by decide +kernel
theorem dX3_copy_75 : decode cX3_copy 75 = .ok (.getfield 22, 3) := by decide +kernel
theorem dX3_copy_78 : decode cX3_copy 78 = .ok (.iconst 0, 1) := by decide +kernel
theorem dX3_copy_79 : decode cX3_copy 79 = .ok (.bipush 12, 2) := by decide +kernel
theorem dX3_copy_81 : decode cX3_copy 81 = .ok (.invokestatic 40, 3) := by decide +kernel
theorem dX3_copy_84 : decode cX3_copy 84 = .ok (.aload_n 1, 1) := by decide +kernel
theorem dX3_copy_85 : decode cX3_copy 85 = .ok (.getfield 25, 3) := by decide +kernel
theorem dX3_copy_88 : decode cX3_copy 88 = .ok (.iconst 0, 1) := by decide +kernel
theorem dX3_copy_89 : decode cX3_copy 89 = .ok (.aload_n 0, 1) := by decide +kernel
theorem dX3_copy_90 : decode cX3_copy 90 = .ok (.getfield 25, 3) := by decide +kernel
theorem dX3_copy_93 : decode cX3_copy 93 = .ok (.iconst 0, 1) := by decide +kernel
theorem dX3_copy_94 : decode cX3_copy 94 = .ok (.bipush 30, 2) := by decide +kernel
theorem dX3_copy_96 : decode cX3_copy 96 = .ok (.invokestatic 40, 3) := by decide +kernel
theorem dX3_copy_99 : decode cX3_copy 99 = .ok (.return_, 1) := by decide +kernel
theorem dX3_write_0 : decode cX3_write 0 = .ok (.aload_n 0, 1) := by decide +kernel
theorem dX3_write_1 : decode cX3_write 1 = .ok (.getfield 37, 3) := by decide +kernel
theorem dX3_write_4 : decode cX3_write 4 = .ok (.bipush 30, 2) := by decide +kernel
theorem dX3_write_6 : decode cX3_write 6 = .ok (.if_icmp .lt 24, 3) := by decide +kernel
theorem dX3_write_9 : decode cX3_write 9 = .ok (.aload_n 0, 1) := by decide +kernel
theorem dX3_write_10 : decode cX3_write 10 = .ok (.getfield 25, 3) := by decide +kernel
theorem dX3_write_13 : decode cX3_write 13 = .ok (.iconst 1, 1) := by decide +kernel
theorem dX3_write_14 : decode cX3_write 14 = .ok (.aload_n 0, 1) := by decide +kernel
theorem dX3_write_15 : decode cX3_write 15 = .ok (.getfield 25, 3) := by decide +kernel
theorem dX3_write_18 : decode cX3_write 18 = .ok (.iconst 0, 1) := by decide +kernel
theorem dX3_write_19 : decode cX3_write 19 = .ok (.bipush 29, 2) := by decide +kernel
theorem dX3_write_21 : decode cX3_write 21 = .ok (.invokestatic 40, 3) := by decide +kernel
theorem dX3_write_24 : decode cX3_write 24 = .ok (.aload_n 0, 1) := by decide +kernel
theorem dX3_write_25 : decode cX3_write 25 = .ok (.bipush 29, 2) := by decide +kernel
theorem dX3_write_27 : decode cX3_write 27 = .ok (.putfield 37, 3) := by decide +kernel
theorem dX3_write_30 : decode cX3_write 30 = .ok (.aload_n 0, 1) := by decide +kernel
theorem dX3_write_31 : decode cX3_write 31 = .ok (.getfield 25, 3) := by decide +kernel
theorem dX3_write_34 : decode cX3_write 34 = .ok (.aload_n 0, 1) := by decide +kernel
theorem dX3_write_35 : decode cX3_write 35 = .ok (.getfield 37, 3) := by decide +kernel
theorem dX3_write_38 : decode cX3_write 38 = .ok (.aload_n 0, 1) := by decide +kernel
theorem dX3_write_39 : decode cX3_write 39 = .ok (.getfield 28, 3) := by decide +kernel
theorem dX3_write_42 : decode cX3_write 42 = .ok (.bipush 6, 2) := by decide +kernel
theorem dX3_write_44 : decode cX3_write 44 = .ok (.ishl, 1) := by decide +kernel
theorem dX3_write_45 : decode cX3_write 45 = .ok (.iload_n 1, 1) := by decide +kernel
theorem dX3_write_46 : decode cX3_write 46 = .ok (.iconst 2, 1) := by decide +kernel
theorem dX3_write_47 : decode cX3_write 47 = .ok (.ishl, 1) := by decide +kernel
theorem dX3_write_48 : decode cX3_write 48 = .ok (.ior, 1) := by decide +kernel
theorem dX3_write_49 : decode cX3_write 49 = .ok (.iload_n 2, 1) := by decide +kernel
theorem dX3_write_50 : decode cX3_write 50 = .ok (.ior, 1) := by decide +kernel
theorem dX3_write_51 : decode cX3_write 51 = .ok (.iastore, 1) := by decide +kernel
theorem dX3_write_52 : decode cX3_write 52 = .ok (.aload_n 0, 1) := by decide +kernel
theorem dX3_write_53 : decode cX3_write 53 = .ok (.dup, 1) := by decide +kernel
theorem dX3_write_54 : decode cX3_write 54 = .ok (.getfield 37, 3) := by decide +kernel
theorem dX3_write_57 : decode cX3_write 57 = .ok (.iconst 1, 1) := by decide +kernel
theorem dX3_write_58 : decode cX3_write 58 = .ok (.iadd, 1) := by decide +kernel
theorem dX3_write_59 : decode cX3_write 59 = .ok (.putfield 37, 3) := by decide +kernel
theorem dX3_write_62 : decode cX3_write 62 = .ok (.return_, 1) := by decide +kernel
theorem dX3_entry_0 : decode cX3_entry 0 = .ok (.iload_n 1, 1) := by decide +kernel
theorem dX3_entry_1 : decode cX3_entry 1 = .ok (.ifCond .lt 11, 3) := by decide +kernel
theorem dX3_entry_4 : decode cX3_entry 4 = .ok (.iload_n 1, 1) := by decide +kernel
theorem dX3_entry_5 : decode cX3_entry 5 = .ok (.aload_n 0, 1) := by decide +kernel
theorem dX3_entry_6 : decode cX3_entry 6 = .ok (.getfield 37, 3) := by decide +kernel
theorem dX3_entry_9 : decode cX3_entry 9 = .ok (.if_icmp .lt 6, 3) := by decide +kernel
theorem dX3_entry_12 : decode cX3_entry 12 = .ok (.bipush (-2), 2) := by decide +kernel
theorem dX3_entry_14 : decode cX3_entry 14 = .ok (.ireturn, 1) := by decide +kernel
theorem dX3_entry_15 : decode cX3_entry 15 = .ok (.iload_n 2, 1) := by decide +kernel
theorem dX3_entry_16 : decode cX3_entry 16 = .ok (.tableswitch 59 0 2 #[28, 38, 50], 28) := by decide +kernel
theorem dX3_entry_44 : decode cX3_entry 44 = .ok (.aload_n 0, 1) := by decide +kernel
theorem dX3_entry_45 : decode cX3_entry 45 = .ok (.getfield 25, 3) := by decide +kernel
theorem dX3_entry_48 : decode cX3_entry 48 = .ok (.iload_n 1, 1) := by decide +kernel
theorem dX3_entry_49 : decode cX3_entry 49 = .ok (.iaload, 1) := by decide +kernel
theorem dX3_entry_50 : decode cX3_entry 50 = .ok (.bipush 6, 2) := by decide +kernel
theorem dX3_entry_52 : decode cX3_entry 52 = .ok (.ishr, 1) := by decide +kernel
theorem dX3_entry_53 : decode cX3_entry 53 = .ok (.ireturn, 1) := by decide +kernel
theorem dX3_entry_54 : decode cX3_entry 54 = .ok (.aload_n 0, 1) := by decide +kernel
theorem dX3_entry_55 : decode cX3_entry 55 = .ok (.getfield 25, 3) := by decide +kernel
theorem dX3_entry_58 : decode cX3_entry 58 = .ok (.iload_n 1, 1) := by decide +kernel
theorem dX3_entry_59 : decode cX3_entry 59 = .ok (.iaload, 1) := by decide +kernel
theorem dX3_entry_60 : decode cX3_entry 60 = .ok (.iconst 2, 1) := by decide +kernel
theorem dX3_entry_61 : decode cX3_entry 61 = .ok (.ishr, 1) := by decide +kernel
theorem dX3_entry_62 : decode cX3_entry 62 = .ok (.bipush 15, 2) := by decide +kernel
theorem dX3_entry_64 : decode cX3_entry 64 = .ok (.iand, 1) := by decide +kernel
theorem dX3_entry_65 : decode cX3_entry 65 = .ok (.ireturn, 1) := by decide +kernel
theorem dX3_entry_66 : decode cX3_entry 66 = .ok (.aload_n 0, 1) := by decide +kernel
theorem dX3_entry_67 : decode cX3_entry 67 = .ok (.getfield 25, 3) := by decide +kernel
theorem dX3_entry_70 : decode cX3_entry 70 = .ok (.iload_n 1, 1) := by decide +kernel
theorem dX3_entry_71 : decode cX3_entry 71 = .ok (.iaload, 1) := by decide +kernel
theorem dX3_entry_72 : decode cX3_entry 72 = .ok (.iconst 3, 1) := by decide +kernel
theorem dX3_entry_73 : decode cX3_entry 73 = .ok (.iand, 1) := by decide +kernel
theorem dX3_entry_74 : decode cX3_entry 74 = .ok (.ireturn, 1) := by decide +kernel
theorem dX3_entry_75 : decode cX3_entry 75 = .ok (.bipush (-2), 2) := by decide +kernel
theorem dX3_entry_77 : decode cX3_entry 77 = .ok (.ireturn, 1) := by decide +kernel
theorem dX3_draw_0 : decode cX3_draw 0 = .ok (.aload_n 0, 1) := by decide +kernel
theorem dX3_draw_1 : decode cX3_draw 1 = .ok (.getfield 9, 3) := by decide +kernel
theorem dX3_draw_4 : decode cX3_draw 4 = .ok (.bipush 10, 2) := by decide +kernel
theorem dX3_draw_6 : decode cX3_draw 6 = .ok (.irem, 1) := by decide +kernel
theorem dX3_draw_7 : decode cX3_draw 7 = .ok (.istore_n 1, 1) := by decide +kernel
theorem dX3_draw_8 : decode cX3_draw 8 = .ok (.aload_n 0, 1) := by decide +kernel
theorem dX3_draw_9 : decode cX3_draw 9 = .ok (.aload_n 0, 1) := by decide +kernel
theorem dX3_draw_10 : decode cX3_draw 10 = .ok (.getfield 9, 3) := by decide +kernel
theorem dX3_draw_13 : decode cX3_draw 13 = .ok (.sipush 401, 3) := by decide +kernel
theorem dX3_draw_16 : decode cX3_draw 16 = .ok (.imul, 1) := by decide +kernel
theorem dX3_draw_17 : decode cX3_draw 17 = .ok (.sipush 281, 3) := by decide +kernel
theorem dX3_draw_20 : decode cX3_draw 20 = .ok (.iadd, 1) := by decide +kernel
theorem dX3_draw_21 : decode cX3_draw 21 = .ok (.sipush 30509, 3) := by decide +kernel
theorem dX3_draw_24 : decode cX3_draw 24 = .ok (.irem, 1) := by decide +kernel
theorem dX3_draw_25 : decode cX3_draw 25 = .ok (.putfield 9, 3) := by decide +kernel
theorem dX3_draw_28 : decode cX3_draw 28 = .ok (.iload_n 1, 1) := by decide +kernel
theorem dX3_draw_29 : decode cX3_draw 29 = .ok (.ireturn, 1) := by decide +kernel
theorem dX4_init_0 : decode cX4_init 0 = .ok (.aload_n 0, 1) := by decide +kernel
theorem dX4_init_1 : decode cX4_init 1 = .ok (.invokespecial 3, 3) := by decide +kernel
theorem dX4_init_4 : decode cX4_init 4 = .ok (.aload_n 0, 1) := by decide +kernel
theorem dX4_init_5 : decode cX4_init 5 = .ok (.iconst (-1), 1) := by decide +kernel
theorem dX4_init_6 : decode cX4_init 6 = .ok (.putfield 9, 3) := by decide +kernel
theorem dX4_init_9 : decode cX4_init 9 = .ok (.aload_n 0, 1) := by decide +kernel
theorem dX4_init_10 : decode cX4_init 10 = .ok (.iconst (-1), 1) := by decide +kernel
theorem dX4_init_11 : decode cX4_init 11 = .ok (.putfield 15, 3) := by decide +kernel
theorem dX4_init_14 : decode cX4_init 14 = .ok (.aload_n 0, 1) := by decide +kernel
theorem dX4_init_15 : decode cX4_init 15 = .ok (.sipush 300, 3) := by decide +kernel
theorem dX4_init_18 : decode cX4_init 18 = .ok (.newarray .int, 2) := by decide +kernel
theorem dX4_init_20 : decode cX4_init 20 = .ok (.putfield 18, 3) := by decide +kernel
theorem dX4_init_23 : decode cX4_init 23 = .ok (.return_, 1) := by decide +kernel
theorem dX4_hasRoom_0 : decode cX4_hasRoom 0 = .ok (.aload_n 0, 1) := by decide +kernel
theorem dX4_hasRoom_1 : decode cX4_hasRoom 1 = .ok (.getfield 22, 3) := by decide +kernel
theorem dX4_hasRoom_4 : decode cX4_hasRoom 4 = .ok (.bipush 20, 2) := by decide +kernel
theorem dX4_hasRoom_6 : decode cX4_hasRoom 6 = .ok (.iadd, 1) := by decide +kernel
theorem dX4_hasRoom_7 : decode cX4_hasRoom 7 = .ok (.sipush 300, 3) := by decide +kernel
theorem dX4_hasRoom_10 : decode cX4_hasRoom 10 = .ok (.if_icmp .gt 7, 3) := by decide +kernel
theorem dX4_hasRoom_13 : decode cX4_hasRoom 13 = .ok (.iconst 1, 1) := by decide +kernel
theorem dX4_hasRoom_14 : decode cX4_hasRoom 14 = .ok (.goto 4, 3) := by decide +kernel
theorem dX4_hasRoom_17 : decode cX4_hasRoom 17 = .ok (.iconst 0, 1) := by decide +kernel
theorem dX4_hasRoom_18 : decode cX4_hasRoom 18 = .ok (.ireturn, 1) := by decide +kernel
theorem dX4_take_0 : decode cX4_take 0 = .ok (.bipush 24, 2) := by decide +kernel
theorem dX4_take_2 : decode cX4_take 2 = .ok (.istore_n 2, 1) := by decide +kernel
theorem dX4_take_3 : decode cX4_take 3 = .ok (.iload_n 2, 1) := by decide +kernel
theorem dX4_take_4 : decode cX4_take 4 = .ok (.ifCond .lt 45, 3) := by decide +kernel
theorem dX4_take_7 : decode cX4_take 7 = .ok (.aload_n 0, 1) := by decide +kernel
theorem dX4_take_8 : decode cX4_take 8 = .ok (.getfield 22, 3) := by decide +kernel
theorem dX4_take_11 : decode cX4_take 11 = .ok (.sipush 300, 3) := by decide +kernel
theorem dX4_take_14 : decode cX4_take 14 = .ok (.if_icmp .ge 35, 3) := by decide +kernel
theorem dX4_take_17 : decode cX4_take 17 = .ok (.aload_n 0, 1) := by decide +kernel
theorem dX4_take_18 : decode cX4_take 18 = .ok (.getfield 18, 3) := by decide +kernel
theorem dX4_take_21 : decode cX4_take 21 = .ok (.aload_n 0, 1) := by decide +kernel
theorem dX4_take_22 : decode cX4_take 22 = .ok (.getfield 22, 3) := by decide +kernel
theorem dX4_take_25 : decode cX4_take 25 = .ok (.iload_n 1, 1) := by decide +kernel
theorem dX4_take_26 : decode cX4_take 26 = .ok (.iload_n 2, 1) := by decide +kernel
theorem dX4_take_27 : decode cX4_take 27 = .ok (.ishr, 1) := by decide +kernel
theorem dX4_take_28 : decode cX4_take 28 = .ok (.sipush 255, 3) := by decide +kernel
theorem dX4_take_31 : decode cX4_take 31 = .ok (.iand, 1) := by decide +kernel
theorem dX4_take_32 : decode cX4_take 32 = .ok (.iastore, 1) := by decide +kernel
theorem dX4_take_33 : decode cX4_take 33 = .ok (.aload_n 0, 1) := by decide +kernel
theorem dX4_take_34 : decode cX4_take 34 = .ok (.dup, 1) := by decide +kernel
theorem dX4_take_35 : decode cX4_take 35 = .ok (.getfield 22, 3) := by decide +kernel
theorem dX4_take_38 : decode cX4_take 38 = .ok (.iconst 1, 1) := by decide +kernel
theorem dX4_take_39 : decode cX4_take 39 = .ok (.iadd, 1) := by decide +kernel
theorem dX4_take_40 : decode cX4_take 40 = .ok (.putfield 22, 3) := by decide +kernel
theorem dX4_take_43 : decode cX4_take 43 = .ok (.iinc 2 (-8), 3) := by decide +kernel
theorem dX4_take_46 : decode cX4_take 46 = .ok (.goto (-43), 3) := by decide +kernel
theorem dX4_take_49 : decode cX4_take 49 = .ok (.aload_n 0, 1) := by decide +kernel
theorem dX4_take_50 : decode cX4_take 50 = .ok (.getfield 22, 3) := by decide +kernel
theorem dX4_take_53 : decode cX4_take 53 = .ok (.ireturn, 1) := by decide +kernel
theorem dX4_shorten_0 : decode cX4_shorten 0 = .ok (.iload_n 1, 1) := by decide +kernel
theorem dX4_shorten_1 : decode cX4_shorten 1 = .ok (.ifCond .lt 11, 3) := by decide +kernel
theorem dX4_shorten_4 : decode cX4_shorten 4 = .ok (.iload_n 1, 1) := by decide +kernel
theorem dX4_shorten_5 : decode cX4_shorten 5 = .ok (.aload_n 0, 1) := by decide +kernel
theorem dX4_shorten_6 : decode cX4_shorten 6 = .ok (.getfield 22, 3) := by decide +kernel
theorem dX4_shorten_9 : decode cX4_shorten 9 = .ok (.if_icmp .le 5, 3) := by decide +kernel
theorem dX4_shorten_12 : decode cX4_shorten 12 = .ok (.iconst (-1), 1) := by decide +kernel
theorem dX4_shorten_13 : decode cX4_shorten 13 = .ok (.ireturn, 1) := by decide +kernel
theorem dX4_shorten_14 : decode cX4_shorten 14 = .ok (.aload_n 0, 1) := by decide +kernel
theorem dX4_shorten_15 : decode cX4_shorten 15 = .ok (.iload_n 1, 1) := by decide +kernel
theorem dX4_shorten_16 : decode cX4_shorten 16 = .ok (.putfield 22, 3) := by decide +kernel
theorem dX4_shorten_19 : decode cX4_shorten 19 = .ok (.iload_n 1, 1) := by decide +kernel
theorem dX4_shorten_20 : decode cX4_shorten 20 = .ok (.ireturn, 1) := by decide +kernel
theorem dX4_read_0 : decode cX4_read 0 = .ok (.aload_n 0, 1) := by decide +kernel
theorem dX4_read_1 : decode cX4_read 1 = .ok (.aload_n 1, 1) := by decide +kernel
theorem dX4_read_2 : decode cX4_read 2 = .ok (.putfield 25, 3) := by decide +kernel
theorem dX4_read_5 : decode cX4_read 5 = .ok (.aload_n 0, 1) := by decide +kernel
theorem dX4_read_6 : decode cX4_read 6 = .ok (.getfield 25, 3) := by decide +kernel
theorem dX4_read_9 : decode cX4_read 9 = .ok (.invokevirtual 29, 3) := by decide +kernel
theorem dX4_read_12 : decode cX4_read 12 = .ok (.aload_n 0, 1) := by decide +kernel
theorem dX4_read_13 : decode cX4_read 13 = .ok (.iconst 0, 1) := by decide +kernel
theorem dX4_read_14 : decode cX4_read 14 = .ok (.putfield 9, 3) := by decide +kernel
theorem dX4_read_17 : decode cX4_read 17 = .ok (.aload_n 0, 1) := by decide +kernel
theorem dX4_read_18 : decode cX4_read 18 = .ok (.iconst (-1), 1) := by decide +kernel
theorem dX4_read_19 : decode cX4_read 19 = .ok (.putfield 15, 3) := by decide +kernel
theorem dX4_read_22 : decode cX4_read 22 = .ok (.aload_n 0, 1) := by decide +kernel
theorem dX4_read_23 : decode cX4_read 23 = .ok (.iconst 0, 1) := by decide +kernel
theorem dX4_read_24 : decode cX4_read 24 = .ok (.putfield 34, 3) := by decide +kernel
theorem dX4_read_27 : decode cX4_read 27 = .ok (.aload_n 0, 1) := by decide +kernel
theorem dX4_read_28 : decode cX4_read 28 = .ok (.invokevirtual 37, 3) := by decide +kernel
theorem dX4_read_31 : decode cX4_read 31 = .ok (.iconst 0, 1) := by decide +kernel
theorem dX4_read_32 : decode cX4_read 32 = .ok (.istore_n 2, 1) := by decide +kernel
theorem dX4_read_33 : decode cX4_read 33 = .ok (.iload_n 2, 1) := by decide +kernel
theorem dX4_read_34 : decode cX4_read 34 = .ok (.bipush 24, 2) := by decide +kernel
theorem dX4_read_36 : decode cX4_read 36 = .ok (.if_icmp .gt 25, 3) := by decide +kernel
theorem dX4_read_39 : decode cX4_read 39 = .ok (.aload_n 0, 1) := by decide +kernel
theorem dX4_read_40 : decode cX4_read 40 = .ok (.getfield 40, 3) := by decide +kernel
theorem dX4_read_43 : decode cX4_read 43 = .ok (.ifCond .eq 18, 3) := by decide +kernel
theorem dX4_read_46 : decode cX4_read 46 = .ok (.aload_n 0, 1) := by decide +kernel
theorem dX4_read_47 : decode cX4_read 47 = .ok (.invokevirtual 43, 3) := by decide +kernel
theorem dX4_read_50 : decode cX4_read 50 = .ok (.ifCond .ne 5, 3) := by decide +kernel
theorem dX4_read_53 : decode cX4_read 53 = .ok (.iconst 0, 1) := by decide +kernel
theorem dX4_read_54 : decode cX4_read 54 = .ok (.ireturn, 1) := by decide +kernel
theorem dX4_read_55 : decode cX4_read 55 = .ok (.iinc 2 1, 3) := by decide +kernel
theorem dX4_read_58 : decode cX4_read 58 = .ok (.goto (-25), 3) := by decide +kernel
theorem dX4_read_61 : decode cX4_read 61 = .ok (.iconst 1, 1) := by decide +kernel
theorem dX4_read_62 : decode cX4_read 62 = .ok (.ireturn, 1) := by decide +kernel
theorem dX4_refuse_0 : decode cX4_refuse 0 = .ok (.aload_n 0, 1) := by decide +kernel
theorem dX4_refuse_1 : decode cX4_refuse 1 = .ok (.iload_n 1, 1) := by decide +kernel
theorem dX4_refuse_2 : decode cX4_refuse 2 = .ok (.putfield 9, 3) := by decide +kernel
theorem dX4_refuse_5 : decode cX4_refuse 5 = .ok (.aload_n 0, 1) := by decide +kernel
theorem dX4_refuse_6 : decode cX4_refuse 6 = .ok (.aload_n 0, 1) := by decide +kernel
theorem dX4_refuse_7 : decode cX4_refuse 7 = .ok (.getfield 47, 3) := by decide +kernel
theorem dX4_refuse_10 : decode cX4_refuse 10 = .ok (.putfield 15, 3) := by decide +kernel
theorem dX4_refuse_13 : decode cX4_refuse 13 = .ok (.iconst 0, 1) := by decide +kernel
theorem dX4_refuse_14 : decode cX4_refuse 14 = .ok (.ireturn, 1) := by decide +kernel
theorem dX4_readClause_0 : decode cX4_readClause 0 = .ok (.aload_n 0, 1) := by decide +kernel
theorem dX4_readClause_1 : decode cX4_readClause 1 = .ok (.getfield 40, 3) := by decide +kernel
theorem dX4_readClause_4 : decode cX4_readClause 4 = .ok (.istore_n 1, 1) := by decide +kernel
theorem dX4_readClause_5 : decode cX4_readClause 5 = .ok (.iload_n 1, 1) := by decide +kernel
theorem dX4_readClause_6 : decode cX4_readClause 6 = .ok (.bipush 16, 2) := by decide +kernel
theorem dX4_readClause_8 : decode cX4_readClause 8 = .ok (.if_icmp .lt 9, 3) := by decide +kernel
theorem dX4_readClause_11 : decode cX4_readClause 11 = .ok (.iload_n 1, 1) := by decide +kernel
theorem dX4_readClause_12 : decode cX4_readClause 12 = .ok (.bipush 26, 2) := by decide +kernel
theorem dX4_readClause_14 : decode cX4_readClause 14 = .ok (.if_icmp .le 9, 3) := by decide +kernel
theorem dX4_readClause_17 : decode cX4_readClause 17 = .ok (.aload_n 0, 1) := by decide +kernel
theorem dX4_readClause_18 : decode cX4_readClause 18 = .ok (.iconst 1, 1) := by decide +kernel
theorem dX4_readClause_19 : decode cX4_readClause 19 = .ok (.invokevirtual 50, 3) := by decide +kernel
theorem dX4_readClause_22 : decode cX4_readClause 22 = .ok (.ireturn, 1) := by decide +kernel
theorem dX4_readClause_23 : decode cX4_readClause 23 = .ok (.iload_n 1, 1) := by decide +kernel
theorem dX4_readClause_24 : decode cX4_readClause 24 = .ok (.bipush 18, 2) := by decide +kernel
theorem dX4_readClause_26 : decode cX4_readClause 26 = .ok (.if_icmp .gt 7, 3) := by decide +kernel
theorem dX4_readClause_29 : decode cX4_readClause 29 = .ok (.iconst 1, 1) := by decide +kernel
theorem dX4_readClause_30 : decode cX4_readClause 30 = .ok (.goto 4, 3) := by decide +kernel
theorem dX4_readClause_33 : decode cX4_readClause 33 = .ok (.iconst 0, 1) := by decide +kernel
theorem dX4_readClause_34 : decode cX4_readClause 34 = .ok (.istore_n 2, 1) := by decide +kernel
theorem dX4_readClause_35 : decode cX4_readClause 35 = .ok (.aload_n 0, 1) := by decide +kernel
theorem dX4_readClause_36 : decode cX4_readClause 36 = .ok (.iload_n 1, 1) := by decide +kernel
theorem dX4_readClause_37 : decode cX4_readClause 37 = .ok (.bipush 16, 2) := by decide +kernel
theorem dX4_readClause_39 : decode cX4_readClause 39 = .ok (.isub, 1) := by decide +kernel
theorem dX4_readClause_40 : decode cX4_readClause 40 = .ok (.putfield 54, 3) := by decide +kernel
theorem dX4_readClause_43 : decode cX4_readClause 43 = .ok (.iload_n 2, 1) := by decide +kernel
theorem dX4_readClause_44 : decode cX4_readClause 44 = .ok (.ifCond .eq 25, 3) := by decide +kernel
theorem dX4_readClause_47 : decode cX4_readClause 47 = .ok (.aload_n 0, 1) := by decide +kernel
theorem dX4_readClause_48 : decode cX4_readClause 48 = .ok (.getfield 25, 3) := by decide +kernel
theorem dX4_readClause_51 : decode cX4_readClause 51 = .ok (.getfield 57, 3) := by decide +kernel
theorem dX4_readClause_54 : decode cX4_readClause 54 = .ok (.aload_n 0, 1) := by decide +kernel
theorem dX4_readClause_55 : decode cX4_readClause 55 = .ok (.getfield 54, 3) := by decide +kernel
theorem dX4_readClause_58 : decode cX4_readClause 58 = .ok (.iaload, 1) := by decide +kernel
theorem dX4_readClause_59 : decode cX4_readClause 59 = .ok (.iconst (-1), 1) := by decide +kernel
theorem dX4_readClause_60 : decode cX4_readClause 60 = .ok (.if_icmp .eq 9, 3) := by decide +kernel
theorem dX4_readClause_63 : decode cX4_readClause 63 = .ok (.aload_n 0, 1) := by decide +kernel
theorem dX4_readClause_64 : decode cX4_readClause 64 = .ok (.iconst 4, 1) := by decide +kernel
theorem dX4_readClause_65 : decode cX4_readClause 65 = .ok (.invokevirtual 50, 3) := by decide +kernel
theorem dX4_readClause_68 : decode cX4_readClause 68 = .ok (.ireturn, 1) := by decide +kernel
theorem dX4_readClause_69 : decode cX4_readClause 69 = .ok (.aload_n 0, 1) := by decide +kernel
theorem dX4_readClause_70 : decode cX4_readClause 70 = .ok (.getfield 25, 3) := by decide +kernel
theorem dX4_readClause_73 : decode cX4_readClause 73 = .ok (.getfield 60, 3) := by decide +kernel
theorem dX4_readClause_76 : decode cX4_readClause 76 = .ok (.bipush 24, 2) := by decide +kernel
theorem dX4_readClause_78 : decode cX4_readClause 78 = .ok (.if_icmp .lt 10, 3) := by decide +kernel
theorem dX4_readClause_81 : decode cX4_readClause 81 = .ok (.aload_n 0, 1) := by decide +kernel
theorem dX4_readClause_82 : decode cX4_readClause 82 = .ok (.bipush 6, 2) := by decide +kernel
theorem dX4_readClause_84 : decode cX4_readClause 84 = .ok (.invokevirtual 50, 3) := by decide +kernel
theorem dX4_readClause_87 : decode cX4_readClause 87 = .ok (.ireturn, 1) := by decide +kernel
theorem dX4_readClause_88 : decode cX4_readClause 88 = .ok (.aload_n 0, 1) := by decide +kernel
theorem dX4_readClause_89 : decode cX4_readClause 89 = .ok (.getfield 25, 3) := by decide +kernel
theorem dX4_readClause_92 : decode cX4_readClause 92 = .ok (.iload_n 1, 1) := by decide +kernel
theorem dX4_readClause_93 : decode cX4_readClause 93 = .ok (.invokevirtual 63, 3) := by decide +kernel
theorem dX4_readClause_96 : decode cX4_readClause 96 = .ok (.aload_n 0, 1) := by decide +kernel
theorem dX4_readClause_97 : decode cX4_readClause 97 = .ok (.invokevirtual 37, 3) := by decide +kernel
theorem dX4_readClause_100 : decode cX4_readClause 100 = .ok (.iload_n 2, 1) := by decide +kernel
theorem dX4_readClause_101 : decode cX4_readClause 101 = .ok (.ifCond .ne 25, 3) := by decide +kernel
theorem dX4_readClause_104 : decode cX4_readClause 104 = .ok (.aload_n 0, 1) := by decide +kernel
theorem dX4_readClause_105 : decode cX4_readClause 105 = .ok (.iload_n 1, 1) := by decide +kernel
theorem dX4_readClause_106 : decode cX4_readClause 106 = .ok (.invokevirtual 67, 3) := by decide +kernel
theorem dX4_readClause_109 : decode cX4_readClause 109 = .ok (.ifCond .eq 15, 3) := by decide +kernel
theorem dX4_readClause_112 : decode cX4_readClause 112 = .ok (.aload_n 0, 1) := by decide +kernel
theorem dX4_readClause_113 : decode cX4_readClause 113 = .ok (.iconst 5, 1) := by decide +kernel
theorem dX4_readClause_114 : decode cX4_readClause 114 = .ok (.invokevirtual 70, 3) := by decide +kernel
theorem dX4_readClause_117 : decode cX4_readClause 117 = .ok (.ifCond .eq 7, 3) := by decide +kernel
theorem dX4_readClause_120 : decode cX4_readClause 120 = .ok (.iconst 1, 1) := by decide +kernel
theorem dX4_readClause_121 : decode cX4_readClause 121 = .ok (.goto 4, 3) := by decide +kernel
theorem dX4_readClause_124 : decode cX4_readClause 124 = .ok (.iconst 0, 1) := by decide +kernel
theorem dX4_readClause_125 : decode cX4_readClause 125 = .ok (.ireturn, 1) := by decide +kernel
theorem dX4_readClause_126 : decode cX4_readClause 126 = .ok (.aload_n 0, 1) := by decide +kernel
theorem dX4_readClause_127 : decode cX4_readClause 127 = .ok (.getfield 25, 3) := by decide +kernel
theorem dX4_readClause_130 : decode cX4_readClause 130 = .ok (.getfield 57, 3) := by decide +kernel
theorem dX4_readClause_133 : decode cX4_readClause 133 = .ok (.aload_n 0, 1) := by decide +kernel
theorem dX4_readClause_134 : decode cX4_readClause 134 = .ok (.getfield 54, 3) := by decide +kernel
theorem dX4_readClause_137 : decode cX4_readClause 137 = .ok (.aload_n 0, 1) := by decide +kernel
theorem dX4_readClause_138 : decode cX4_readClause 138 = .ok (.getfield 25, 3) := by decide +kernel
theorem dX4_readClause_141 : decode cX4_readClause 141 = .ok (.getfield 73, 3) := by decide +kernel
theorem dX4_readClause_144 : decode cX4_readClause 144 = .ok (.iastore, 1) := by decide +kernel
theorem dX4_readClause_145 : decode cX4_readClause 145 = .ok (.aload_n 0, 1) := by decide +kernel
theorem dX4_readClause_146 : decode cX4_readClause 146 = .ok (.iconst 0, 1) := by decide +kernel
theorem dX4_readClause_147 : decode cX4_readClause 147 = .ok (.invokevirtual 74, 3) := by decide +kernel
theorem dX4_readClause_150 : decode cX4_readClause 150 = .ok (.ifCond .eq 15, 3) := by decide +kernel
theorem dX4_readClause_153 : decode cX4_readClause 153 = .ok (.aload_n 0, 1) := by decide +kernel
theorem dX4_readClause_154 : decode cX4_readClause 154 = .ok (.iconst 5, 1) := by decide +kernel
theorem dX4_readClause_155 : decode cX4_readClause 155 = .ok (.invokevirtual 77, 3) := by decide +kernel
theorem dX4_readClause_158 : decode cX4_readClause 158 = .ok (.ifCond .eq 7, 3) := by decide +kernel
theorem dX4_readClause_161 : decode cX4_readClause 161 = .ok (.iconst 1, 1) := by decide +kernel
theorem dX4_readClause_162 : decode cX4_readClause 162 = .ok (.goto 4, 3) := by decide +kernel
theorem dX4_readClause_165 : decode cX4_readClause 165 = .ok (.iconst 0, 1) := by decide +kernel
theorem dX4_readClause_166 : decode cX4_readClause 166 = .ok (.ireturn, 1) := by decide +kernel
theorem dX4_readDeed_0 : decode cX4_readDeed 0 = .ok (.iload_n 1, 1) := by decide +kernel
theorem dX4_readDeed_1 : decode cX4_readDeed 1 = .ok (.tableswitch 204 19 26 #[47, 84, 140, 204, 204, 186, 177, 195], 47) := by decide +kernel
theorem dX4_readDeed_48 : decode cX4_readDeed 48 = .ok (.aload_n 0, 1) := by decide +kernel
theorem dX4_readDeed_49 : decode cX4_readDeed 49 = .ok (.iconst 0, 1) := by decide +kernel
theorem dX4_readDeed_50 : decode cX4_readDeed 50 = .ok (.iconst 0, 1) := by decide +kernel
theorem dX4_readDeed_51 : decode cX4_readDeed 51 = .ok (.iconst 2, 1) := by decide +kernel
theorem dX4_readDeed_52 : decode cX4_readDeed 52 = .ok (.invokevirtual 80, 3) := by decide +kernel
theorem dX4_readDeed_55 : decode cX4_readDeed 55 = .ok (.ifCond .eq 28, 3) := by decide +kernel
theorem dX4_readDeed_58 : decode cX4_readDeed 58 = .ok (.aload_n 0, 1) := by decide +kernel
theorem dX4_readDeed_59 : decode cX4_readDeed 59 = .ok (.bipush 32, 2) := by decide +kernel
theorem dX4_readDeed_61 : decode cX4_readDeed 61 = .ok (.invokevirtual 70, 3) := by decide +kernel
theorem dX4_readDeed_64 : decode cX4_readDeed 64 = .ok (.ifCond .eq 19, 3) := by decide +kernel
theorem dX4_readDeed_67 : decode cX4_readDeed 67 = .ok (.aload_n 0, 1) := by decide +kernel
theorem dX4_readDeed_68 : decode cX4_readDeed 68 = .ok (.iconst 1, 1) := by decide +kernel
theorem dX4_readDeed_69 : decode cX4_readDeed 69 = .ok (.iconst 0, 1) := by decide +kernel
theorem dX4_readDeed_70 : decode cX4_readDeed 70 = .ok (.sipush 9999, 3) := by decide +kernel
theorem dX4_readDeed_73 : decode cX4_readDeed 73 = .ok (.invokevirtual 80, 3) := by decide +kernel
theorem dX4_readDeed_76 : decode cX4_readDeed 76 = .ok (.ifCond .eq 7, 3) := by decide +kernel
theorem dX4_readDeed_79 : decode cX4_readDeed 79 = .ok (.iconst 1, 1) := by decide +kernel
theorem dX4_readDeed_80 : decode cX4_readDeed 80 = .ok (.goto 4, 3) := by decide +kernel
theorem dX4_readDeed_83 : decode cX4_readDeed 83 = .ok (.iconst 0, 1) := by decide +kernel
theorem dX4_readDeed_84 : decode cX4_readDeed 84 = .ok (.ireturn, 1) := by decide +kernel
theorem dX4_readDeed_85 : decode cX4_readDeed 85 = .ok (.aload_n 0, 1) := by decide +kernel
theorem dX4_readDeed_86 : decode cX4_readDeed 86 = .ok (.iconst 0, 1) := by decide +kernel
theorem dX4_readDeed_87 : decode cX4_readDeed 87 = .ok (.iconst 0, 1) := by decide +kernel
theorem dX4_readDeed_88 : decode cX4_readDeed 88 = .ok (.iconst 4, 1) := by decide +kernel
theorem dX4_readDeed_89 : decode cX4_readDeed 89 = .ok (.invokevirtual 80, 3) := by decide +kernel
theorem dX4_readDeed_92 : decode cX4_readDeed 92 = .ok (.ifCond .eq 47, 3) := by decide +kernel
theorem dX4_readDeed_95 : decode cX4_readDeed 95 = .ok (.aload_n 0, 1) := by decide +kernel
theorem dX4_readDeed_96 : decode cX4_readDeed 96 = .ok (.bipush 29, 2) := by decide +kernel
theorem dX4_readDeed_98 : decode cX4_readDeed 98 = .ok (.invokevirtual 70, 3) := by decide +kernel
theorem dX4_readDeed_101 : decode cX4_readDeed 101 = .ok (.ifCond .eq 38, 3) := by decide +kernel
theorem dX4_readDeed_104 : decode cX4_readDeed 104 = .ok (.aload_n 0, 1) := by decide +kernel
theorem dX4_readDeed_105 : decode cX4_readDeed 105 = .ok (.iconst 1, 1) := by decide +kernel
theorem dX4_readDeed_106 : decode cX4_readDeed 106 = .ok (.iconst 0, 1) := by decide +kernel
theorem dX4_readDeed_107 : decode cX4_readDeed 107 = .ok (.bipush 99, 2) := by decide +kernel
theorem dX4_readDeed_109 : decode cX4_readDeed 109 = .ok (.invokevirtual 80, 3) := by decide +kernel
theorem dX4_readDeed_112 : decode cX4_readDeed 112 = .ok (.ifCond .eq 27, 3) := by decide +kernel
theorem dX4_readDeed_115 : decode cX4_readDeed 115 = .ok (.aload_n 0, 1) := by decide +kernel
theorem dX4_readDeed_116 : decode cX4_readDeed 116 = .ok (.bipush 30, 2) := by decide +kernel
theorem dX4_readDeed_118 : decode cX4_readDeed 118 = .ok (.invokevirtual 70, 3) := by decide +kernel
theorem dX4_readDeed_121 : decode cX4_readDeed 121 = .ok (.ifCond .eq 18, 3) := by decide +kernel
theorem dX4_readDeed_124 : decode cX4_readDeed 124 = .ok (.aload_n 0, 1) := by decide +kernel
theorem dX4_readDeed_125 : decode cX4_readDeed 125 = .ok (.iconst 2, 1) := by decide +kernel
theorem dX4_readDeed_126 : decode cX4_readDeed 126 = .ok (.iconst 1, 1) := by decide +kernel
theorem dX4_readDeed_127 : decode cX4_readDeed 127 = .ok (.bipush 9, 2) := by decide +kernel
theorem dX4_readDeed_129 : decode cX4_readDeed 129 = .ok (.invokevirtual 80, 3) := by decide +kernel
theorem dX4_readDeed_132 : decode cX4_readDeed 132 = .ok (.ifCond .eq 7, 3) := by decide +kernel
theorem dX4_readDeed_135 : decode cX4_readDeed 135 = .ok (.iconst 1, 1) := by decide +kernel
theorem dX4_readDeed_136 : decode cX4_readDeed 136 = .ok (.goto 4, 3) := by decide +kernel
theorem dX4_readDeed_139 : decode cX4_readDeed 139 = .ok (.iconst 0, 1) := by decide +kernel
theorem dX4_readDeed_140 : decode cX4_readDeed 140 = .ok (.ireturn, 1) := by decide +kernel
theorem dX4_readDeed_141 : decode cX4_readDeed 141 = .ok (.aload_n 0, 1) := by decide +kernel
theorem dX4_readDeed_142 : decode cX4_readDeed 142 = .ok (.iconst 0, 1) := by decide +kernel
theorem dX4_readDeed_143 : decode cX4_readDeed 143 = .ok (.iconst 0, 1) := by decide +kernel
theorem dX4_readDeed_144 : decode cX4_readDeed 144 = .ok (.bipush 11, 2) := by decide +kernel
theorem dX4_readDeed_146 : decode cX4_readDeed 146 = .ok (.invokevirtual 80, 3) := by decide +kernel
theorem dX4_readDeed_149 : decode cX4_readDeed 149 = .ok (.ifCond .eq 27, 3) := by decide +kernel
theorem dX4_readDeed_152 : decode cX4_readDeed 152 = .ok (.aload_n 0, 1) := by decide +kernel
theorem dX4_readDeed_153 : decode cX4_readDeed 153 = .ok (.bipush 34, 2) := by decide +kernel
theorem dX4_readDeed_155 : decode cX4_readDeed 155 = .ok (.invokevirtual 70, 3) := by decide +kernel
theorem dX4_readDeed_158 : decode cX4_readDeed 158 = .ok (.ifCond .eq 18, 3) := by decide +kernel
theorem dX4_readDeed_161 : decode cX4_readDeed 161 = .ok (.aload_n 0, 1) := by decide +kernel
theorem dX4_readDeed_162 : decode cX4_readDeed 162 = .ok (.iconst 1, 1) := by decide +kernel
theorem dX4_readDeed_163 : decode cX4_readDeed 163 = .ok (.iconst 0, 1) := by decide +kernel
theorem dX4_readDeed_164 : decode cX4_readDeed 164 = .ok (.bipush 11, 2) := by decide +kernel
theorem dX4_readDeed_166 : decode cX4_readDeed 166 = .ok (.invokevirtual 80, 3) := by decide +kernel
theorem dX4_readDeed_169 : decode cX4_readDeed 169 = .ok (.ifCond .eq 7, 3) := by decide +kernel
theorem dX4_readDeed_172 : decode cX4_readDeed 172 = .ok (.iconst 1, 1) := by decide +kernel
theorem dX4_readDeed_173 : decode cX4_readDeed 173 = .ok (.goto 4, 3) := by decide +kernel
theorem dX4_readDeed_176 : decode cX4_readDeed 176 = .ok (.iconst 0, 1) := by decide +kernel
theorem dX4_readDeed_177 : decode cX4_readDeed 177 = .ok (.ireturn, 1) := by decide +kernel
theorem dX4_readDeed_178 : decode cX4_readDeed 178 = .ok (.aload_n 0, 1) := by decide +kernel
theorem dX4_readDeed_179 : decode cX4_readDeed 179 = .ok (.iconst 0, 1) := by decide +kernel
theorem dX4_readDeed_180 : decode cX4_readDeed 180 = .ok (.iconst 0, 1) := by decide +kernel
theorem dX4_readDeed_181 : decode cX4_readDeed 181 = .ok (.bipush 9, 2) := by decide +kernel
theorem dX4_readDeed_183 : decode cX4_readDeed 183 = .ok (.invokevirtual 80, 3) := by decide +kernel
theorem dX4_readDeed_186 : decode cX4_readDeed 186 = .ok (.ireturn, 1) := by decide +kernel
theorem dX4_readDeed_187 : decode cX4_readDeed 187 = .ok (.aload_n 0, 1) := by decide +kernel
theorem dX4_readDeed_188 : decode cX4_readDeed 188 = .ok (.iconst 0, 1) := by decide +kernel
theorem dX4_readDeed_189 : decode cX4_readDeed 189 = .ok (.iconst 1, 1) := by decide +kernel
theorem dX4_readDeed_190 : decode cX4_readDeed 190 = .ok (.bipush 9, 2) := by decide +kernel
theorem dX4_readDeed_192 : decode cX4_readDeed 192 = .ok (.invokevirtual 80, 3) := by decide +kernel
theorem dX4_readDeed_195 : decode cX4_readDeed 195 = .ok (.ireturn, 1) := by decide +kernel
theorem dX4_readDeed_196 : decode cX4_readDeed 196 = .ok (.aload_n 0, 1) := by decide +kernel
theorem dX4_readDeed_197 : decode cX4_readDeed 197 = .ok (.iconst 0, 1) := by decide +kernel
theorem dX4_readDeed_198 : decode cX4_readDeed 198 = .ok (.iconst 1, 1) := by decide +kernel
theorem dX4_readDeed_199 : decode cX4_readDeed 199 = .ok (.bipush 60, 2) := by decide +kernel
theorem dX4_readDeed_201 : decode cX4_readDeed 201 = .ok (.invokevirtual 80, 3) := by decide +kernel
theorem dX4_readDeed_204 : decode cX4_readDeed 204 = .ok (.ireturn, 1) := by decide +kernel
theorem dX4_readDeed_205 : decode cX4_readDeed 205 = .ok (.aload_n 0, 1) := by decide +kernel
theorem dX4_readDeed_206 : decode cX4_readDeed 206 = .ok (.iconst 0, 1) := by decide +kernel
theorem dX4_readDeed_207 : decode cX4_readDeed 207 = .ok (.iconst 0, 1) := by decide +kernel
theorem dX4_readDeed_208 : decode cX4_readDeed 208 = .ok (.bipush 11, 2) := by decide +kernel
theorem dX4_readDeed_210 : decode cX4_readDeed 210 = .ok (.invokevirtual 80, 3) := by decide +kernel
theorem dX4_readDeed_213 : decode cX4_readDeed 213 = .ok (.ireturn, 1) := by decide +kernel
theorem dX4_readNumber_0 : decode cX4_readNumber 0 = .ok (.aload_n 0, 1) := by decide +kernel
theorem dX4_readNumber_1 : decode cX4_readNumber 1 = .ok (.getfield 40, 3) := by decide +kernel
theorem dX4_readNumber_4 : decode cX4_readNumber 4 = .ok (.iconst 2, 1) := by decide +kernel
theorem dX4_readNumber_5 : decode cX4_readNumber 5 = .ok (.if_icmp .eq 9, 3) := by decide +kernel
theorem dX4_readNumber_8 : decode cX4_readNumber 8 = .ok (.aload_n 0, 1) := by decide +kernel
theorem dX4_readNumber_9 : decode cX4_readNumber 9 = .ok (.iconst 1, 1) := by decide +kernel
theorem dX4_readNumber_10 : decode cX4_readNumber 10 = .ok (.invokevirtual 50, 3) := by decide +kernel
theorem dX4_readNumber_13 : decode cX4_readNumber 13 = .ok (.ireturn, 1) := by decide +kernel
theorem dX4_readNumber_14 : decode cX4_readNumber 14 = .ok (.aload_n 0, 1) := by decide +kernel
theorem dX4_readNumber_15 : decode cX4_readNumber 15 = .ok (.getfield 84, 3) := by decide +kernel
theorem dX4_readNumber_18 : decode cX4_readNumber 18 = .ok (.iload_n 2, 1) := by decide +kernel
theorem dX4_readNumber_19 : decode cX4_readNumber 19 = .ok (.if_icmp .lt 11, 3) := by decide +kernel
theorem dX4_readNumber_22 : decode cX4_readNumber 22 = .ok (.aload_n 0, 1) := by decide +kernel
theorem dX4_readNumber_23 : decode cX4_readNumber 23 = .ok (.getfield 84, 3) := by decide +kernel
theorem dX4_readNumber_26 : decode cX4_readNumber 26 = .ok (.iload_n 3, 1) := by decide +kernel
theorem dX4_readNumber_27 : decode cX4_readNumber 27 = .ok (.if_icmp .le 9, 3) := by decide +kernel
theorem dX4_readNumber_30 : decode cX4_readNumber 30 = .ok (.aload_n 0, 1) := by decide +kernel
theorem dX4_readNumber_31 : decode cX4_readNumber 31 = .ok (.iconst 2, 1) := by decide +kernel
theorem dX4_readNumber_32 : decode cX4_readNumber 32 = .ok (.invokevirtual 50, 3) := by decide +kernel
theorem dX4_readNumber_35 : decode cX4_readNumber 35 = .ok (.ireturn, 1) := by decide +kernel
theorem dX4_readNumber_36 : decode cX4_readNumber 36 = .ok (.aload_n 0, 1) := by decide +kernel
theorem dX4_readNumber_37 : decode cX4_readNumber 37 = .ok (.getfield 25, 3) := by decide +kernel
theorem dX4_readNumber_40 : decode cX4_readNumber 40 = .ok (.iload_n 1, 1) := by decide +kernel
theorem dX4_readNumber_41 : decode cX4_readNumber 41 = .ok (.aload_n 0, 1) := by decide +kernel
theorem dX4_readNumber_42 : decode cX4_readNumber 42 = .ok (.getfield 84, 3) := by decide +kernel
theorem dX4_readNumber_45 : decode cX4_readNumber 45 = .ok (.invokevirtual 87, 3) := by decide +kernel
theorem dX4_readNumber_48 : decode cX4_readNumber 48 = .ok (.aload_n 0, 1) := by decide +kernel
theorem dX4_readNumber_49 : decode cX4_readNumber 49 = .ok (.invokevirtual 37, 3) := by decide +kernel
theorem dX4_readNumber_52 : decode cX4_readNumber 52 = .ok (.iconst 1, 1) := by decide +kernel
theorem dX4_readNumber_53 : decode cX4_readNumber 53 = .ok (.ireturn, 1) := by decide +kernel
theorem dX4_pass_0 : decode cX4_pass 0 = .ok (.aload_n 0, 1) := by decide +kernel
theorem dX4_pass_1 : decode cX4_pass 1 = .ok (.getfield 40, 3) := by decide +kernel
theorem dX4_pass_4 : decode cX4_pass 4 = .ok (.iload_n 1, 1) := by decide +kernel
theorem dX4_pass_5 : decode cX4_pass 5 = .ok (.if_icmp .eq 9, 3) := by decide +kernel
theorem dX4_pass_8 : decode cX4_pass 8 = .ok (.aload_n 0, 1) := by decide +kernel
theorem dX4_pass_9 : decode cX4_pass 9 = .ok (.iconst 1, 1) := by decide +kernel
theorem dX4_pass_10 : decode cX4_pass 10 = .ok (.invokevirtual 50, 3) := by decide +kernel
theorem dX4_pass_13 : decode cX4_pass 13 = .ok (.ireturn, 1) := by decide +kernel
theorem dX4_pass_14 : decode cX4_pass 14 = .ok (.aload_n 0, 1) := by decide +kernel
theorem dX4_pass_15 : decode cX4_pass 15 = .ok (.invokevirtual 37, 3) := by decide +kernel
theorem dX4_pass_18 : decode cX4_pass 18 = .ok (.iconst 1, 1) := by decide +kernel
theorem dX4_pass_19 : decode cX4_pass 19 = .ok (.ireturn, 1) := by decide +kernel
theorem dX4_passKept_0 : decode cX4_passKept 0 = .ok (.aload_n 0, 1) := by decide +kernel
theorem dX4_passKept_1 : decode cX4_passKept 1 = .ok (.getfield 40, 3) := by decide +kernel
theorem dX4_passKept_4 : decode cX4_passKept 4 = .ok (.iload_n 1, 1) := by decide +kernel
theorem dX4_passKept_5 : decode cX4_passKept 5 = .ok (.if_icmp .eq 9, 3) := by decide +kernel
theorem dX4_passKept_8 : decode cX4_passKept 8 = .ok (.aload_n 0, 1) := by decide +kernel
theorem dX4_passKept_9 : decode cX4_passKept 9 = .ok (.iconst 1, 1) := by decide +kernel
theorem dX4_passKept_10 : decode cX4_passKept 10 = .ok (.invokevirtual 50, 3) := by decide +kernel
theorem dX4_passKept_13 : decode cX4_passKept 13 = .ok (.ireturn, 1) := by decide +kernel
theorem dX4_passKept_14 : decode cX4_passKept 14 = .ok (.aload_n 0, 1) := by decide +kernel
theorem dX4_passKept_15 : decode cX4_passKept 15 = .ok (.getfield 25, 3) := by decide +kernel
theorem dX4_passKept_18 : decode cX4_passKept 18 = .ok (.iload_n 1, 1) := by decide +kernel
theorem dX4_passKept_19 : decode cX4_passKept 19 = .ok (.iconst 0, 1) := by decide +kernel
theorem dX4_passKept_20 : decode cX4_passKept 20 = .ok (.invokevirtual 91, 3) := by decide +kernel
theorem dX4_passKept_23 : decode cX4_passKept 23 = .ok (.aload_n 0, 1) := by decide +kernel
theorem dX4_passKept_24 : decode cX4_passKept 24 = .ok (.invokevirtual 37, 3) := by decide +kernel
theorem dX4_passKept_27 : decode cX4_passKept 27 = .ok (.iconst 1, 1) := by decide +kernel
theorem dX4_passKept_28 : decode cX4_passKept 28 = .ok (.ireturn, 1) := by decide +kernel
theorem dX4_readSum_0 : decode cX4_readSum 0 = .ok (.aload_n 0, 1) := by decide +kernel
theorem dX4_readSum_1 : decode cX4_readSum 1 = .ok (.iload_n 1, 1) := by decide +kernel
theorem dX4_readSum_2 : decode cX4_readSum 2 = .ok (.invokevirtual 94, 3) := by decide +kernel
theorem dX4_readSum_5 : decode cX4_readSum 5 = .ok (.istore_n 2, 1) := by decide +kernel
theorem dX4_readSum_6 : decode cX4_readSum 6 = .ok (.iconst 0, 1) := by decide +kernel
theorem dX4_readSum_7 : decode cX4_readSum 7 = .ok (.istore_n 3, 1) := by decide +kernel
theorem dX4_readSum_8 : decode cX4_readSum 8 = .ok (.iload_n 3, 1) := by decide +kernel
theorem dX4_readSum_9 : decode cX4_readSum 9 = .ok (.sipush 300, 3) := by decide +kernel
theorem dX4_readSum_12 : decode cX4_readSum 12 = .ok (.if_icmp .ge 57, 3) := by decide +kernel
theorem dX4_readSum_15 : decode cX4_readSum 15 = .ok (.iload_n 2, 1) := by decide +kernel
theorem dX4_readSum_16 : decode cX4_readSum 16 = .ok (.ifCond .eq 53, 3) := by decide +kernel
theorem dX4_readSum_19 : decode cX4_readSum 19 = .ok (.aload_n 0, 1) := by decide +kernel
theorem dX4_readSum_20 : decode cX4_readSum 20 = .ok (.getfield 40, 3) := by decide +kernel
theorem dX4_readSum_23 : decode cX4_readSum 23 = .ok (.bipush 6, 2) := by decide +kernel
theorem dX4_readSum_25 : decode cX4_readSum 25 = .ok (.if_icmp .eq 12, 3) := by decide +kernel
theorem dX4_readSum_28 : decode cX4_readSum 28 = .ok (.aload_n 0, 1) := by decide +kernel
theorem dX4_readSum_29 : decode cX4_readSum 29 = .ok (.getfield 40, 3) := by decide +kernel
theorem dX4_readSum_32 : decode cX4_readSum 32 = .ok (.bipush 7, 2) := by decide +kernel
theorem dX4_readSum_34 : decode cX4_readSum 34 = .ok (.if_icmp .ne 35, 3) := by decide +kernel
theorem dX4_readSum_37 : decode cX4_readSum 37 = .ok (.aload_n 0, 1) := by decide +kernel
theorem dX4_readSum_38 : decode cX4_readSum 38 = .ok (.getfield 40, 3) := by decide +kernel
theorem dX4_readSum_41 : decode cX4_readSum 41 = .ok (.istore 4, 2) := by decide +kernel
theorem dX4_readSum_43 : decode cX4_readSum 43 = .ok (.aload_n 0, 1) := by decide +kernel
theorem dX4_readSum_44 : decode cX4_readSum 44 = .ok (.invokevirtual 37, 3) := by decide +kernel
theorem dX4_readSum_47 : decode cX4_readSum 47 = .ok (.aload_n 0, 1) := by decide +kernel
theorem dX4_readSum_48 : decode cX4_readSum 48 = .ok (.iload_n 1, 1) := by decide +kernel
theorem dX4_readSum_49 : decode cX4_readSum 49 = .ok (.invokevirtual 94, 3) := by decide +kernel
theorem dX4_readSum_52 : decode cX4_readSum 52 = .ok (.istore_n 2, 1) := by decide +kernel
theorem dX4_readSum_53 : decode cX4_readSum 53 = .ok (.aload_n 0, 1) := by decide +kernel
theorem dX4_readSum_54 : decode cX4_readSum 54 = .ok (.getfield 25, 3) := by decide +kernel
theorem dX4_readSum_57 : decode cX4_readSum 57 = .ok (.iload 4, 2) := by decide +kernel
theorem dX4_readSum_59 : decode cX4_readSum 59 = .ok (.iconst 0, 1) := by decide +kernel
theorem dX4_readSum_60 : decode cX4_readSum 60 = .ok (.invokevirtual 91, 3) := by decide +kernel
theorem dX4_readSum_63 : decode cX4_readSum 63 = .ok (.iinc 3 1, 3) := by decide +kernel
theorem dX4_readSum_66 : decode cX4_readSum 66 = .ok (.goto (-58), 3) := by decide +kernel
theorem dX4_readSum_69 : decode cX4_readSum 69 = .ok (.iload_n 2, 1) := by decide +kernel
theorem dX4_readSum_70 : decode cX4_readSum 70 = .ok (.ireturn, 1) := by decide +kernel
theorem dX4_readProduct_0 : decode cX4_readProduct 0 = .ok (.aload_n 0, 1) := by decide +kernel
theorem dX4_readProduct_1 : decode cX4_readProduct 1 = .ok (.iload_n 1, 1) := by decide +kernel
theorem dX4_readProduct_2 : decode cX4_readProduct 2 = .ok (.invokevirtual 97, 3) := by decide +kernel
theorem dX4_readProduct_5 : decode cX4_readProduct 5 = .ok (.istore_n 2, 1) := by decide +kernel
theorem dX4_readProduct_6 : decode cX4_readProduct 6 = .ok (.iconst 0, 1) := by decide +kernel
theorem dX4_readProduct_7 : decode cX4_readProduct 7 = .ok (.istore_n 3, 1) := by decide +kernel
theorem dX4_readProduct_8 : decode cX4_readProduct 8 = .ok (.iload_n 3, 1) := by decide +kernel
theorem dX4_readProduct_9 : decode cX4_readProduct 9 = .ok (.sipush 300, 3) := by decide +kernel
theorem dX4_readProduct_12 : decode cX4_readProduct 12 = .ok (.if_icmp .ge 57, 3) := by decide +kernel
theorem dX4_readProduct_15 : decode cX4_readProduct 15 = .ok (.iload_n 2, 1) := by decide +kernel
theorem dX4_readProduct_16 : decode cX4_readProduct 16 = .ok (.ifCond .eq 53, 3) := by decide +kernel
theorem dX4_readProduct_19 : decode cX4_readProduct 19 = .ok (.aload_n 0, 1) := by decide +kernel
theorem dX4_readProduct_20 : decode cX4_readProduct 20 = .ok (.getfield 40, 3) := by decide +kernel
theorem dX4_readProduct_23 : decode cX4_readProduct 23 = .ok (.bipush 8, 2) := by decide +kernel
theorem dX4_readProduct_25 : decode cX4_readProduct 25 = .ok (.if_icmp .eq 12, 3) := by decide +kernel
theorem dX4_readProduct_28 : decode cX4_readProduct 28 = .ok (.aload_n 0, 1) := by decide +kernel
theorem dX4_readProduct_29 : decode cX4_readProduct 29 = .ok (.getfield 40, 3) := by decide +kernel
theorem dX4_readProduct_32 : decode cX4_readProduct 32 = .ok (.bipush 9, 2) := by decide +kernel
theorem dX4_readProduct_34 : decode cX4_readProduct 34 = .ok (.if_icmp .ne 35, 3) := by decide +kernel
theorem dX4_readProduct_37 : decode cX4_readProduct 37 = .ok (.aload_n 0, 1) := by decide +kernel
theorem dX4_readProduct_38 : decode cX4_readProduct 38 = .ok (.getfield 40, 3) := by decide +kernel
theorem dX4_readProduct_41 : decode cX4_readProduct 41 = .ok (.istore 4, 2) := by decide +kernel
theorem dX4_readProduct_43 : decode cX4_readProduct 43 = .ok (.aload_n 0, 1) := by decide +kernel
theorem dX4_readProduct_44 : decode cX4_readProduct 44 = .ok (.invokevirtual 37, 3) := by decide +kernel
theorem dX4_readProduct_47 : decode cX4_readProduct 47 = .ok (.aload_n 0, 1) := by decide +kernel
theorem dX4_readProduct_48 : decode cX4_readProduct 48 = .ok (.iload_n 1, 1) := by decide +kernel
theorem dX4_readProduct_49 : decode cX4_readProduct 49 = .ok (.invokevirtual 97, 3) := by decide +kernel
theorem dX4_readProduct_52 : decode cX4_readProduct 52 = .ok (.istore_n 2, 1) := by decide +kernel
theorem dX4_readProduct_53 : decode cX4_readProduct 53 = .ok (.aload_n 0, 1) := by decide +kernel
theorem dX4_readProduct_54 : decode cX4_readProduct 54 = .ok (.getfield 25, 3) := by decide +kernel
theorem dX4_readProduct_57 : decode cX4_readProduct 57 = .ok (.iload 4, 2) := by decide +kernel
theorem dX4_readProduct_59 : decode cX4_readProduct 59 = .ok (.iconst 0, 1) := by decide +kernel
theorem dX4_readProduct_60 : decode cX4_readProduct 60 = .ok (.invokevirtual 91, 3) := by decide +kernel
theorem dX4_readProduct_63 : decode cX4_readProduct 63 = .ok (.iinc 3 1, 3) := by decide +kernel
theorem dX4_readProduct_66 : decode cX4_readProduct 66 = .ok (.goto (-58), 3) := by decide +kernel
theorem dX4_readProduct_69 : decode cX4_readProduct 69 = .ok (.iload_n 2, 1) := by decide +kernel
theorem dX4_readProduct_70 : decode cX4_readProduct 70 = .ok (.ireturn, 1) := by decide +kernel
theorem dX4_readOne_0 : decode cX4_readOne 0 = .ok (.aload_n 0, 1) := by decide +kernel
theorem dX4_readOne_1 : decode cX4_readOne 1 = .ok (.getfield 40, 3) := by decide +kernel
theorem dX4_readOne_4 : decode cX4_readOne 4 = .ok (.istore_n 2, 1) := by decide +kernel
theorem dX4_readOne_5 : decode cX4_readOne 5 = .ok (.iload_n 2, 1) := by decide +kernel
theorem dX4_readOne_6 : decode cX4_readOne 6 = .ok (.iconst 2, 1) := by decide +kernel
theorem dX4_readOne_7 : decode cX4_readOne 7 = .ok (.if_icmp .eq 15, 3) := by decide +kernel
theorem dX4_readOne_10 : decode cX4_readOne 10 = .ok (.iload_n 2, 1) := by decide +kernel
theorem dX4_readOne_11 : decode cX4_readOne 11 = .ok (.bipush 25, 2) := by decide +kernel
theorem dX4_readOne_13 : decode cX4_readOne 13 = .ok (.if_icmp .lt 15, 3) := by decide +kernel
theorem dX4_readOne_16 : decode cX4_readOne 16 = .ok (.iload_n 2, 1) := by decide +kernel
theorem dX4_readOne_17 : decode cX4_readOne 17 = .ok (.bipush 33, 2) := by decide +kernel
theorem dX4_readOne_19 : decode cX4_readOne 19 = .ok (.if_icmp .gt 9, 3) := by decide +kernel
theorem dX4_readOne_22 : decode cX4_readOne 22 = .ok (.aload_n 0, 1) := by decide +kernel
theorem dX4_readOne_23 : decode cX4_readOne 23 = .ok (.iload_n 2, 1) := by decide +kernel
theorem dX4_readOne_24 : decode cX4_readOne 24 = .ok (.invokevirtual 100, 3) := by decide +kernel
theorem dX4_readOne_27 : decode cX4_readOne 27 = .ok (.ireturn, 1) := by decide +kernel
theorem dX4_readOne_28 : decode cX4_readOne 28 = .ok (.iload_n 2, 1) := by decide +kernel
theorem dX4_readOne_29 : decode cX4_readOne 29 = .ok (.iconst 3, 1) := by decide +kernel
theorem dX4_readOne_30 : decode cX4_readOne 30 = .ok (.if_icmp .eq 33, 3) := by decide +kernel
theorem dX4_readOne_33 : decode cX4_readOne 33 = .ok (.iload_n 2, 1) := by decide +kernel
theorem dX4_readOne_34 : decode cX4_readOne 34 = .ok (.bipush 7, 2) := by decide +kernel
theorem dX4_readOne_36 : decode cX4_readOne 36 = .ok (.if_icmp .eq 27, 3) := by decide +kernel
theorem dX4_readOne_39 : decode cX4_readOne 39 = .ok (.iload_n 2, 1) := by decide +kernel
theorem dX4_readOne_40 : decode cX4_readOne 40 = .ok (.bipush 35, 2) := by decide +kernel
theorem dX4_readOne_42 : decode cX4_readOne 42 = .ok (.if_icmp .eq 21, 3) := by decide +kernel
theorem dX4_readOne_45 : decode cX4_readOne 45 = .ok (.iload_n 2, 1) := by decide +kernel
theorem dX4_readOne_46 : decode cX4_readOne 46 = .ok (.bipush 36, 2) := by decide +kernel
theorem dX4_readOne_48 : decode cX4_readOne 48 = .ok (.if_icmp .eq 15, 3) := by decide +kernel
theorem dX4_readOne_51 : decode cX4_readOne 51 = .ok (.iload_n 2, 1) := by decide +kernel
theorem dX4_readOne_52 : decode cX4_readOne 52 = .ok (.bipush 37, 2) := by decide +kernel
theorem dX4_readOne_54 : decode cX4_readOne 54 = .ok (.if_icmp .eq 9, 3) := by decide +kernel
theorem dX4_readOne_57 : decode cX4_readOne 57 = .ok (.aload_n 0, 1) := by decide +kernel
theorem dX4_readOne_58 : decode cX4_readOne 58 = .ok (.iconst 1, 1) := by decide +kernel
theorem dX4_readOne_59 : decode cX4_readOne 59 = .ok (.invokevirtual 50, 3) := by decide +kernel
theorem dX4_readOne_62 : decode cX4_readOne 62 = .ok (.ireturn, 1) := by decide +kernel
theorem dX4_readOne_63 : decode cX4_readOne 63 = .ok (.iload_n 1, 1) := by decide +kernel
theorem dX4_readOne_64 : decode cX4_readOne 64 = .ok (.bipush 8, 2) := by decide +kernel
theorem dX4_readOne_66 : decode cX4_readOne 66 = .ok (.if_icmp .lt 9, 3) := by decide +kernel
theorem dX4_readOne_69 : decode cX4_readOne 69 = .ok (.aload_n 0, 1) := by decide +kernel
theorem dX4_readOne_70 : decode cX4_readOne 70 = .ok (.iconst 3, 1) := by decide +kernel
theorem dX4_readOne_71 : decode cX4_readOne 71 = .ok (.invokevirtual 50, 3) := by decide +kernel
theorem dX4_readOne_74 : decode cX4_readOne 74 = .ok (.ireturn, 1) := by decide +kernel
theorem dX4_readOne_75 : decode cX4_readOne 75 = .ok (.aload_n 0, 1) := by decide +kernel
theorem dX4_readOne_76 : decode cX4_readOne 76 = .ok (.invokevirtual 37, 3) := by decide +kernel
theorem dX4_readOne_79 : decode cX4_readOne 79 = .ok (.iload_n 2, 1) := by decide +kernel
theorem dX4_readOne_80 : decode cX4_readOne 80 = .ok (.bipush 37, 2) := by decide +kernel
theorem dX4_readOne_82 : decode cX4_readOne 82 = .ok (.if_icmp .ne 11, 3) := by decide +kernel
theorem dX4_readOne_85 : decode cX4_readOne 85 = .ok (.aload_n 0, 1) := by decide +kernel
theorem dX4_readOne_86 : decode cX4_readOne 86 = .ok (.iload_n 1, 1) := by decide +kernel
theorem dX4_readOne_87 : decode cX4_readOne 87 = .ok (.iconst 1, 1) := by decide +kernel
theorem dX4_readOne_88 : decode cX4_readOne 88 = .ok (.iadd, 1) := by decide +kernel
theorem dX4_readOne_89 : decode cX4_readOne 89 = .ok (.invokevirtual 103, 3) := by decide +kernel
theorem dX4_readOne_92 : decode cX4_readOne 92 = .ok (.ireturn, 1) := by decide +kernel
theorem dX4_readOne_93 : decode cX4_readOne 93 = .ok (.iload_n 2, 1) := by decide +kernel
theorem dX4_readOne_94 : decode cX4_readOne 94 = .ok (.iconst 3, 1) := by decide +kernel
theorem dX4_readOne_95 : decode cX4_readOne 95 = .ok (.if_icmp .ne 29, 3) := by decide +kernel
theorem dX4_readOne_98 : decode cX4_readOne 98 = .ok (.aload_n 0, 1) := by decide +kernel
theorem dX4_readOne_99 : decode cX4_readOne 99 = .ok (.iload_n 1, 1) := by decide +kernel
theorem dX4_readOne_100 : decode cX4_readOne 100 = .ok (.iconst 1, 1) := by decide +kernel
theorem dX4_readOne_101 : decode cX4_readOne 101 = .ok (.iadd, 1) := by decide +kernel
theorem dX4_readOne_102 : decode cX4_readOne 102 = .ok (.invokevirtual 74, 3) := by decide +kernel
theorem dX4_readOne_105 : decode cX4_readOne 105 = .ok (.ifCond .eq 15, 3) := by decide +kernel
theorem dX4_readOne_108 : decode cX4_readOne 108 = .ok (.aload_n 0, 1) := by decide +kernel
theorem dX4_readOne_109 : decode cX4_readOne 109 = .ok (.iconst 4, 1) := by decide +kernel
theorem dX4_readOne_110 : decode cX4_readOne 110 = .ok (.invokevirtual 70, 3) := by decide +kernel
theorem dX4_readOne_113 : decode cX4_readOne 113 = .ok (.ifCond .eq 7, 3) := by decide +kernel
theorem dX4_readOne_116 : decode cX4_readOne 116 = .ok (.iconst 1, 1) := by decide +kernel
theorem dX4_readOne_117 : decode cX4_readOne 117 = .ok (.goto 15, 3) := by decide +kernel
theorem dX4_readOne_120 : decode cX4_readOne 120 = .ok (.iconst 0, 1) := by decide +kernel
theorem dX4_readOne_121 : decode cX4_readOne 121 = .ok (.goto 11, 3) := by decide +kernel
theorem dX4_readOne_124 : decode cX4_readOne 124 = .ok (.aload_n 0, 1) := by decide +kernel
theorem dX4_readOne_125 : decode cX4_readOne 125 = .ok (.iload_n 2, 1) := by decide +kernel
theorem dX4_readOne_126 : decode cX4_readOne 126 = .ok (.iload_n 1, 1) := by decide +kernel
theorem dX4_readOne_127 : decode cX4_readOne 127 = .ok (.iconst 1, 1) := by decide +kernel
theorem dX4_readOne_128 : decode cX4_readOne 128 = .ok (.iadd, 1) := by decide +kernel
theorem dX4_readOne_129 : decode cX4_readOne 129 = .ok (.invokevirtual 106, 3) := by decide +kernel
theorem dX4_readOne_132 : decode cX4_readOne 132 = .ok (.ireturn, 1) := by decide +kernel
theorem dX4_readChanged_0 : decode cX4_readChanged 0 = .ok (.aload_n 0, 1) := by decide +kernel
theorem dX4_readChanged_1 : decode cX4_readChanged 1 = .ok (.iload_n 2, 1) := by decide +kernel
theorem dX4_readChanged_2 : decode cX4_readChanged 2 = .ok (.invokevirtual 97, 3) := by decide +kernel
theorem dX4_readChanged_5 : decode cX4_readChanged 5 = .ok (.istore_n 3, 1) := by decide +kernel
theorem dX4_readChanged_6 : decode cX4_readChanged 6 = .ok (.aload_n 0, 1) := by decide +kernel
theorem dX4_readChanged_7 : decode cX4_readChanged 7 = .ok (.getfield 25, 3) := by decide +kernel
theorem dX4_readChanged_10 : decode cX4_readChanged 10 = .ok (.iload_n 1, 1) := by decide +kernel
theorem dX4_readChanged_11 : decode cX4_readChanged 11 = .ok (.bipush 7, 2) := by decide +kernel
theorem dX4_readChanged_13 : decode cX4_readChanged 13 = .ok (.if_icmp .ne 8, 3) := by decide +kernel
theorem dX4_readChanged_16 : decode cX4_readChanged 16 = .ok (.bipush 44, 2) := by decide +kernel
theorem dX4_readChanged_18 : decode cX4_readChanged 18 = .ok (.goto 4, 3) := by decide +kernel
theorem dX4_readChanged_21 : decode cX4_readChanged 21 = .ok (.iload_n 1, 1) := by decide +kernel
theorem dX4_readChanged_22 : decode cX4_readChanged 22 = .ok (.iconst 0, 1) := by decide +kernel
theorem dX4_readChanged_23 : decode cX4_readChanged 23 = .ok (.invokevirtual 91, 3) := by decide +kernel
theorem dX4_readChanged_26 : decode cX4_readChanged 26 = .ok (.iload_n 3, 1) := by decide +kernel
theorem dX4_readChanged_27 : decode cX4_readChanged 27 = .ok (.ireturn, 1) := by decide +kernel
theorem dX4_readLeaf_0 : decode cX4_readLeaf 0 = .ok (.iload_n 1, 1) := by decide +kernel
theorem dX4_readLeaf_1 : decode cX4_readLeaf 1 = .ok (.iconst 2, 1) := by decide +kernel
theorem dX4_readLeaf_2 : decode cX4_readLeaf 2 = .ok (.if_icmp .ne 19, 3) := by decide +kernel
theorem dX4_readLeaf_5 : decode cX4_readLeaf 5 = .ok (.aload_n 0, 1) := by decide +kernel
theorem dX4_readLeaf_6 : decode cX4_readLeaf 6 = .ok (.getfield 84, 3) := by decide +kernel
theorem dX4_readLeaf_9 : decode cX4_readLeaf 9 = .ok (.sipush 9999, 3) := by decide +kernel
theorem dX4_readLeaf_12 : decode cX4_readLeaf 12 = .ok (.if_icmp .le 9, 3) := by decide +kernel
theorem dX4_readLeaf_15 : decode cX4_readLeaf 15 = .ok (.aload_n 0, 1) := by decide +kernel
theorem dX4_readLeaf_16 : decode cX4_readLeaf 16 = .ok (.iconst 2, 1) := by decide +kernel
theorem dX4_readLeaf_17 : decode cX4_readLeaf 17 = .ok (.invokevirtual 50, 3) := by decide +kernel
theorem dX4_readLeaf_20 : decode cX4_readLeaf 20 = .ok (.ireturn, 1) := by decide +kernel
theorem dX4_readLeaf_21 : decode cX4_readLeaf 21 = .ok (.iload_n 1, 1) := by decide +kernel
theorem dX4_readLeaf_22 : decode cX4_readLeaf 22 = .ok (.bipush 32, 2) := by decide +kernel
theorem dX4_readLeaf_24 : decode cX4_readLeaf 24 = .ok (.if_icmp .ne 11, 3) := by decide +kernel
theorem dX4_readLeaf_27 : decode cX4_readLeaf 27 = .ok (.aload_n 0, 1) := by decide +kernel
theorem dX4_readLeaf_28 : decode cX4_readLeaf 28 = .ok (.getfield 54, 3) := by decide +kernel
theorem dX4_readLeaf_31 : decode cX4_readLeaf 31 = .ok (.iconst 2, 1) := by decide +kernel
theorem dX4_readLeaf_32 : decode cX4_readLeaf 32 = .ok (.if_icmp .ne 16, 3) := by decide +kernel
theorem dX4_readLeaf_35 : decode cX4_readLeaf 35 = .ok (.iload_n 1, 1) := by decide +kernel
theorem dX4_readLeaf_36 : decode cX4_readLeaf 36 = .ok (.bipush 33, 2) := by decide +kernel
theorem dX4_readLeaf_38 : decode cX4_readLeaf 38 = .ok (.if_icmp .ne 16, 3) := by decide +kernel
theorem dX4_readLeaf_41 : decode cX4_readLeaf 41 = .ok (.aload_n 0, 1) := by decide +kernel
theorem dX4_readLeaf_42 : decode cX4_readLeaf 42 = .ok (.getfield 54, 3) := by decide +kernel
theorem dX4_readLeaf_45 : decode cX4_readLeaf 45 = .ok (.ifCond .ne 9, 3) := by decide +kernel
theorem dX4_readLeaf_48 : decode cX4_readLeaf 48 = .ok (.aload_n 0, 1) := by decide +kernel
theorem dX4_readLeaf_49 : decode cX4_readLeaf 49 = .ok (.iconst 5, 1) := by decide +kernel
theorem dX4_readLeaf_50 : decode cX4_readLeaf 50 = .ok (.invokevirtual 50, 3) := by decide +kernel
theorem dX4_readLeaf_53 : decode cX4_readLeaf 53 = .ok (.ireturn, 1) := by decide +kernel
theorem dX4_readLeaf_54 : decode cX4_readLeaf 54 = .ok (.aload_n 0, 1) := by decide +kernel
theorem dX4_readLeaf_55 : decode cX4_readLeaf 55 = .ok (.getfield 25, 3) := by decide +kernel
theorem dX4_readLeaf_58 : decode cX4_readLeaf 58 = .ok (.iload_n 1, 1) := by decide +kernel
theorem dX4_readLeaf_59 : decode cX4_readLeaf 59 = .ok (.aload_n 0, 1) := by decide +kernel
theorem dX4_readLeaf_60 : decode cX4_readLeaf 60 = .ok (.getfield 84, 3) := by decide +kernel
theorem dX4_readLeaf_63 : decode cX4_readLeaf 63 = .ok (.invokevirtual 91, 3) := by decide +kernel
theorem dX4_readLeaf_66 : decode cX4_readLeaf 66 = .ok (.aload_n 0, 1) := by decide +kernel
theorem dX4_readLeaf_67 : decode cX4_readLeaf 67 = .ok (.invokevirtual 37, 3) := by decide +kernel
theorem dX4_readLeaf_70 : decode cX4_readLeaf 70 = .ok (.iconst 1, 1) := by decide +kernel
theorem dX4_readLeaf_71 : decode cX4_readLeaf 71 = .ok (.ireturn, 1) := by decide +kernel
theorem dX4_readChoice_0 : decode cX4_readChoice 0 = .ok (.aload_n 0, 1) := by decide +kernel
theorem dX4_readChoice_1 : decode cX4_readChoice 1 = .ok (.iload_n 1, 1) := by decide +kernel
theorem dX4_readChoice_2 : decode cX4_readChoice 2 = .ok (.invokevirtual 110, 3) := by decide +kernel
theorem dX4_readChoice_5 : decode cX4_readChoice 5 = .ok (.ifCond .ne 5, 3) := by decide +kernel
theorem dX4_readChoice_8 : decode cX4_readChoice 8 = .ok (.iconst 0, 1) := by decide +kernel
theorem dX4_readChoice_9 : decode cX4_readChoice 9 = .ok (.ireturn, 1) := by decide +kernel
theorem dX4_readChoice_10 : decode cX4_readChoice 10 = .ok (.aload_n 0, 1) := by decide +kernel
theorem dX4_readChoice_11 : decode cX4_readChoice 11 = .ok (.getfield 25, 3) := by decide +kernel
theorem dX4_readChoice_14 : decode cX4_readChoice 14 = .ok (.getfield 73, 3) := by decide +kernel
theorem dX4_readChoice_17 : decode cX4_readChoice 17 = .ok (.istore_n 2, 1) := by decide +kernel
theorem dX4_readChoice_18 : decode cX4_readChoice 18 = .ok (.aload_n 0, 1) := by decide +kernel
theorem dX4_readChoice_19 : decode cX4_readChoice 19 = .ok (.bipush 38, 2) := by decide +kernel
theorem dX4_readChoice_21 : decode cX4_readChoice 21 = .ok (.invokevirtual 77, 3) := by decide +kernel
theorem dX4_readChoice_24 : decode cX4_readChoice 24 = .ok (.ifCond .eq 11, 3) := by decide +kernel
theorem dX4_readChoice_27 : decode cX4_readChoice 27 = .ok (.aload_n 0, 1) := by decide +kernel
theorem dX4_readChoice_28 : decode cX4_readChoice 28 = .ok (.iload_n 1, 1) := by decide +kernel
theorem dX4_readChoice_29 : decode cX4_readChoice 29 = .ok (.invokevirtual 74, 3) := by decide +kernel
theorem dX4_readChoice_32 : decode cX4_readChoice 32 = .ok (.ifCond .ne 5, 3) := by decide +kernel
theorem dX4_readChoice_35 : decode cX4_readChoice 35 = .ok (.iconst 0, 1) := by decide +kernel
theorem dX4_readChoice_36 : decode cX4_readChoice 36 = .ok (.ireturn, 1) := by decide +kernel
theorem dX4_readChoice_37 : decode cX4_readChoice 37 = .ok (.aload_n 0, 1) := by decide +kernel
theorem dX4_readChoice_38 : decode cX4_readChoice 38 = .ok (.getfield 25, 3) := by decide +kernel
theorem dX4_readChoice_41 : decode cX4_readChoice 41 = .ok (.getfield 73, 3) := by decide +kernel
theorem dX4_readChoice_44 : decode cX4_readChoice 44 = .ok (.istore_n 3, 1) := by decide +kernel
theorem dX4_readChoice_45 : decode cX4_readChoice 45 = .ok (.aload_n 0, 1) := by decide +kernel
theorem dX4_readChoice_46 : decode cX4_readChoice 46 = .ok (.bipush 39, 2) := by decide +kernel
theorem dX4_readChoice_48 : decode cX4_readChoice 48 = .ok (.invokevirtual 77, 3) := by decide +kernel
theorem dX4_readChoice_51 : decode cX4_readChoice 51 = .ok (.ifCond .ne 5, 3) := by decide +kernel
theorem dX4_readChoice_54 : decode cX4_readChoice 54 = .ok (.iconst 0, 1) := by decide +kernel
theorem dX4_readChoice_55 : decode cX4_readChoice 55 = .ok (.ireturn, 1) := by decide +kernel
theorem dX4_readChoice_56 : decode cX4_readChoice 56 = .ok (.aload_n 0, 1) := by decide +kernel
theorem dX4_readChoice_57 : decode cX4_readChoice 57 = .ok (.getfield 25, 3) := by decide +kernel
theorem dX4_readChoice_60 : decode cX4_readChoice 60 = .ok (.iload_n 2, 1) := by decide +kernel
theorem dX4_readChoice_61 : decode cX4_readChoice 61 = .ok (.invokevirtual 113, 3) := by decide +kernel
theorem dX4_readChoice_64 : decode cX4_readChoice 64 = .ok (.aload_n 0, 1) := by decide +kernel
theorem dX4_readChoice_65 : decode cX4_readChoice 65 = .ok (.iload_n 1, 1) := by decide +kernel
theorem dX4_readChoice_66 : decode cX4_readChoice 66 = .ok (.invokevirtual 74, 3) := by decide +kernel
theorem dX4_readChoice_69 : decode cX4_readChoice 69 = .ok (.ifCond .ne 5, 3) := by decide +kernel
theorem dX4_readChoice_72 : decode cX4_readChoice 72 = .ok (.iconst 0, 1) := by decide +kernel
theorem dX4_readChoice_73 : decode cX4_readChoice 73 = .ok (.ireturn, 1) := by decide +kernel
theorem dX4_readChoice_74 : decode cX4_readChoice 74 = .ok (.aload_n 0, 1) := by decide +kernel
theorem dX4_readChoice_75 : decode cX4_readChoice 75 = .ok (.getfield 25, 3) := by decide +kernel
theorem dX4_readChoice_78 : decode cX4_readChoice 78 = .ok (.iload_n 3, 1) := by decide +kernel
theorem dX4_readChoice_79 : decode cX4_readChoice 79 = .ok (.invokevirtual 113, 3) := by decide +kernel
theorem dX4_readChoice_82 : decode cX4_readChoice 82 = .ok (.aload_n 0, 1) := by decide +kernel
theorem dX4_readChoice_83 : decode cX4_readChoice 83 = .ok (.bipush 40, 2) := by decide +kernel
theorem dX4_readChoice_85 : decode cX4_readChoice 85 = .ok (.invokevirtual 70, 3) := by decide +kernel
theorem dX4_readChoice_88 : decode cX4_readChoice 88 = .ok (.ireturn, 1) := by decide +kernel
theorem dX4_readEither_0 : decode cX4_readEither 0 = .ok (.aload_n 0, 1) := by decide +kernel
theorem dX4_readEither_1 : decode cX4_readEither 1 = .ok (.iload_n 1, 1) := by decide +kernel
theorem dX4_readEither_2 : decode cX4_readEither 2 = .ok (.invokevirtual 116, 3) := by decide +kernel
theorem dX4_readEither_5 : decode cX4_readEither 5 = .ok (.istore_n 2, 1) := by decide +kernel
theorem dX4_readEither_6 : decode cX4_readEither 6 = .ok (.iconst 0, 1) := by decide +kernel
theorem dX4_readEither_7 : decode cX4_readEither 7 = .ok (.istore_n 3, 1) := by decide +kernel
theorem dX4_readEither_8 : decode cX4_readEither 8 = .ok (.iload_n 3, 1) := by decide +kernel
theorem dX4_readEither_9 : decode cX4_readEither 9 = .ok (.sipush 300, 3) := by decide +kernel
theorem dX4_readEither_12 : decode cX4_readEither 12 = .ok (.if_icmp .ge 42, 3) := by decide +kernel
theorem dX4_readEither_15 : decode cX4_readEither 15 = .ok (.iload_n 2, 1) := by decide +kernel
theorem dX4_readEither_16 : decode cX4_readEither 16 = .ok (.ifCond .eq 38, 3) := by decide +kernel
theorem dX4_readEither_19 : decode cX4_readEither 19 = .ok (.aload_n 0, 1) := by decide +kernel
theorem dX4_readEither_20 : decode cX4_readEither 20 = .ok (.getfield 40, 3) := by decide +kernel
theorem dX4_readEither_23 : decode cX4_readEither 23 = .ok (.bipush 43, 2) := by decide +kernel
theorem dX4_readEither_25 : decode cX4_readEither 25 = .ok (.if_icmp .ne 29, 3) := by decide +kernel
theorem dX4_readEither_28 : decode cX4_readEither 28 = .ok (.aload_n 0, 1) := by decide +kernel
theorem dX4_readEither_29 : decode cX4_readEither 29 = .ok (.invokevirtual 37, 3) := by decide +kernel
theorem dX4_readEither_32 : decode cX4_readEither 32 = .ok (.aload_n 0, 1) := by decide +kernel
theorem dX4_readEither_33 : decode cX4_readEither 33 = .ok (.iload_n 1, 1) := by decide +kernel
theorem dX4_readEither_34 : decode cX4_readEither 34 = .ok (.invokevirtual 116, 3) := by decide +kernel
theorem dX4_readEither_37 : decode cX4_readEither 37 = .ok (.istore_n 2, 1) := by decide +kernel
theorem dX4_readEither_38 : decode cX4_readEither 38 = .ok (.aload_n 0, 1) := by decide +kernel
theorem dX4_readEither_39 : decode cX4_readEither 39 = .ok (.getfield 25, 3) := by decide +kernel
theorem dX4_readEither_42 : decode cX4_readEither 42 = .ok (.bipush 43, 2) := by decide +kernel
theorem dX4_readEither_44 : decode cX4_readEither 44 = .ok (.iconst 0, 1) := by decide +kernel
theorem dX4_readEither_45 : decode cX4_readEither 45 = .ok (.invokevirtual 91, 3) := by decide +kernel
theorem dX4_readEither_48 : decode cX4_readEither 48 = .ok (.iinc 3 1, 3) := by decide +kernel
theorem dX4_readEither_51 : decode cX4_readEither 51 = .ok (.goto (-43), 3) := by decide +kernel
theorem dX4_readEither_54 : decode cX4_readEither 54 = .ok (.iload_n 2, 1) := by decide +kernel
theorem dX4_readEither_55 : decode cX4_readEither 55 = .ok (.ireturn, 1) := by decide +kernel
theorem dX4_readBoth_0 : decode cX4_readBoth 0 = .ok (.aload_n 0, 1) := by decide +kernel
theorem dX4_readBoth_1 : decode cX4_readBoth 1 = .ok (.iload_n 1, 1) := by decide +kernel
theorem dX4_readBoth_2 : decode cX4_readBoth 2 = .ok (.invokevirtual 119, 3) := by decide +kernel
theorem dX4_readBoth_5 : decode cX4_readBoth 5 = .ok (.istore_n 2, 1) := by decide +kernel
theorem dX4_readBoth_6 : decode cX4_readBoth 6 = .ok (.iconst 0, 1) := by decide +kernel
theorem dX4_readBoth_7 : decode cX4_readBoth 7 = .ok (.istore_n 3, 1) := by decide +kernel
theorem dX4_readBoth_8 : decode cX4_readBoth 8 = .ok (.iload_n 3, 1) := by decide +kernel
theorem dX4_readBoth_9 : decode cX4_readBoth 9 = .ok (.sipush 300, 3) := by decide +kernel
theorem dX4_readBoth_12 : decode cX4_readBoth 12 = .ok (.if_icmp .ge 42, 3) := by decide +kernel
theorem dX4_readBoth_15 : decode cX4_readBoth 15 = .ok (.iload_n 2, 1) := by decide +kernel
theorem dX4_readBoth_16 : decode cX4_readBoth 16 = .ok (.ifCond .eq 38, 3) := by decide +kernel
theorem dX4_readBoth_19 : decode cX4_readBoth 19 = .ok (.aload_n 0, 1) := by decide +kernel
theorem dX4_readBoth_20 : decode cX4_readBoth 20 = .ok (.getfield 40, 3) := by decide +kernel
theorem dX4_readBoth_23 : decode cX4_readBoth 23 = .ok (.bipush 42, 2) := by decide +kernel
theorem dX4_readBoth_25 : decode cX4_readBoth 25 = .ok (.if_icmp .ne 29, 3) := by decide +kernel
theorem dX4_readBoth_28 : decode cX4_readBoth 28 = .ok (.aload_n 0, 1) := by decide +kernel
theorem dX4_readBoth_29 : decode cX4_readBoth 29 = .ok (.invokevirtual 37, 3) := by decide +kernel
theorem dX4_readBoth_32 : decode cX4_readBoth 32 = .ok (.aload_n 0, 1) := by decide +kernel
theorem dX4_readBoth_33 : decode cX4_readBoth 33 = .ok (.iload_n 1, 1) := by decide +kernel
theorem dX4_readBoth_34 : decode cX4_readBoth 34 = .ok (.invokevirtual 119, 3) := by decide +kernel
theorem dX4_readBoth_37 : decode cX4_readBoth 37 = .ok (.istore_n 2, 1) := by decide +kernel
theorem dX4_readBoth_38 : decode cX4_readBoth 38 = .ok (.aload_n 0, 1) := by decide +kernel
theorem dX4_readBoth_39 : decode cX4_readBoth 39 = .ok (.getfield 25, 3) := by decide +kernel
theorem dX4_readBoth_42 : decode cX4_readBoth 42 = .ok (.bipush 42, 2) := by decide +kernel
theorem dX4_readBoth_44 : decode cX4_readBoth 44 = .ok (.iconst 0, 1) := by decide +kernel
theorem dX4_readBoth_45 : decode cX4_readBoth 45 = .ok (.invokevirtual 91, 3) := by decide +kernel
theorem dX4_readBoth_48 : decode cX4_readBoth 48 = .ok (.iinc 3 1, 3) := by decide +kernel
theorem dX4_readBoth_51 : decode cX4_readBoth 51 = .ok (.goto (-43), 3) := by decide +kernel
theorem dX4_readBoth_54 : decode cX4_readBoth 54 = .ok (.iload_n 2, 1) := by decide +kernel
theorem dX4_readBoth_55 : decode cX4_readBoth 55 = .ok (.ireturn, 1) := by decide +kernel
theorem dX4_readAsk_0 : decode cX4_readAsk 0 = .ok (.aload_n 0, 1) := by decide +kernel
theorem dX4_readAsk_1 : decode cX4_readAsk 1 = .ok (.getfield 40, 3) := by decide +kernel
theorem dX4_readAsk_4 : decode cX4_readAsk 4 = .ok (.bipush 41, 2) := by decide +kernel
theorem dX4_readAsk_6 : decode cX4_readAsk 6 = .ok (.if_icmp .ne 25, 3) := by decide +kernel
theorem dX4_readAsk_9 : decode cX4_readAsk 9 = .ok (.iload_n 1, 1) := by decide +kernel
theorem dX4_readAsk_10 : decode cX4_readAsk 10 = .ok (.bipush 8, 2) := by decide +kernel
theorem dX4_readAsk_12 : decode cX4_readAsk 12 = .ok (.if_icmp .ge 13, 3) := by decide +kernel
theorem dX4_readAsk_15 : decode cX4_readAsk 15 = .ok (.aload_n 0, 1) := by decide +kernel
theorem dX4_readAsk_16 : decode cX4_readAsk 16 = .ok (.iload_n 1, 1) := by decide +kernel
theorem dX4_readAsk_17 : decode cX4_readAsk 17 = .ok (.iconst 1, 1) := by decide +kernel
theorem dX4_readAsk_18 : decode cX4_readAsk 18 = .ok (.iadd, 1) := by decide +kernel
theorem dX4_readAsk_19 : decode cX4_readAsk 19 = .ok (.invokevirtual 122, 3) := by decide +kernel
theorem dX4_readAsk_22 : decode cX4_readAsk 22 = .ok (.goto 8, 3) := by decide +kernel
theorem dX4_readAsk_25 : decode cX4_readAsk 25 = .ok (.aload_n 0, 1) := by decide +kernel
theorem dX4_readAsk_26 : decode cX4_readAsk 26 = .ok (.iconst 3, 1) := by decide +kernel
theorem dX4_readAsk_27 : decode cX4_readAsk 27 = .ok (.invokevirtual 50, 3) := by decide +kernel
theorem dX4_readAsk_30 : decode cX4_readAsk 30 = .ok (.ireturn, 1) := by decide +kernel
theorem dX4_readAsk_31 : decode cX4_readAsk 31 = .ok (.aload_n 0, 1) := by decide +kernel
theorem dX4_readAsk_32 : decode cX4_readAsk 32 = .ok (.iload_n 1, 1) := by decide +kernel
theorem dX4_readAsk_33 : decode cX4_readAsk 33 = .ok (.invokevirtual 74, 3) := by decide +kernel
theorem dX4_readAsk_36 : decode cX4_readAsk 36 = .ok (.ifCond .ne 5, 3) := by decide +kernel
theorem dX4_readAsk_39 : decode cX4_readAsk 39 = .ok (.iconst 0, 1) := by decide +kernel
theorem dX4_readAsk_40 : decode cX4_readAsk 40 = .ok (.ireturn, 1) := by decide +kernel
theorem dX4_readAsk_41 : decode cX4_readAsk 41 = .ok (.aload_n 0, 1) := by decide +kernel
theorem dX4_readAsk_42 : decode cX4_readAsk 42 = .ok (.getfield 40, 3) := by decide +kernel
theorem dX4_readAsk_45 : decode cX4_readAsk 45 = .ok (.istore_n 2, 1) := by decide +kernel
theorem dX4_readAsk_46 : decode cX4_readAsk 46 = .ok (.iload_n 2, 1) := by decide +kernel
theorem dX4_readAsk_47 : decode cX4_readAsk 47 = .ok (.bipush 10, 2) := by decide +kernel
theorem dX4_readAsk_49 : decode cX4_readAsk 49 = .ok (.if_icmp .lt 9, 3) := by decide +kernel
theorem dX4_readAsk_52 : decode cX4_readAsk 52 = .ok (.iload_n 2, 1) := by decide +kernel
theorem dX4_readAsk_53 : decode cX4_readAsk 53 = .ok (.bipush 15, 2) := by decide +kernel
theorem dX4_readAsk_55 : decode cX4_readAsk 55 = .ok (.if_icmp .le 9, 3) := by decide +kernel
theorem dX4_readAsk_58 : decode cX4_readAsk 58 = .ok (.aload_n 0, 1) := by decide +kernel
theorem dX4_readAsk_59 : decode cX4_readAsk 59 = .ok (.iconst 1, 1) := by decide +kernel
theorem dX4_readAsk_60 : decode cX4_readAsk 60 = .ok (.invokevirtual 50, 3) := by decide +kernel
theorem dX4_readAsk_63 : decode cX4_readAsk 63 = .ok (.ireturn, 1) := by decide +kernel
theorem dX4_readAsk_64 : decode cX4_readAsk 64 = .ok (.aload_n 0, 1) := by decide +kernel
theorem dX4_readAsk_65 : decode cX4_readAsk 65 = .ok (.invokevirtual 37, 3) := by decide +kernel
theorem dX4_readAsk_68 : decode cX4_readAsk 68 = .ok (.aload_n 0, 1) := by decide +kernel
theorem dX4_readAsk_69 : decode cX4_readAsk 69 = .ok (.iload_n 1, 1) := by decide +kernel
theorem dX4_readAsk_70 : decode cX4_readAsk 70 = .ok (.invokevirtual 74, 3) := by decide +kernel
theorem dX4_readAsk_73 : decode cX4_readAsk 73 = .ok (.istore_n 3, 1) := by decide +kernel
theorem dX4_readAsk_74 : decode cX4_readAsk 74 = .ok (.aload_n 0, 1) := by decide +kernel
theorem dX4_readAsk_75 : decode cX4_readAsk 75 = .ok (.getfield 25, 3) := by decide +kernel
theorem dX4_readAsk_78 : decode cX4_readAsk 78 = .ok (.iload_n 2, 1) := by decide +kernel
theorem dX4_readAsk_79 : decode cX4_readAsk 79 = .ok (.iconst 0, 1) := by decide +kernel
theorem dX4_readAsk_80 : decode cX4_readAsk 80 = .ok (.invokevirtual 91, 3) := by decide +kernel
theorem dX4_readAsk_83 : decode cX4_readAsk 83 = .ok (.iload_n 3, 1) := by decide +kernel
theorem dX4_readAsk_84 : decode cX4_readAsk 84 = .ok (.ireturn, 1) := by decide +kernel
theorem dX4_readNot_0 : decode cX4_readNot 0 = .ok (.aload_n 0, 1) := by decide +kernel
theorem dX4_readNot_1 : decode cX4_readNot 1 = .ok (.invokevirtual 37, 3) := by decide +kernel
theorem dX4_readNot_4 : decode cX4_readNot 4 = .ok (.aload_n 0, 1) := by decide +kernel
theorem dX4_readNot_5 : decode cX4_readNot 5 = .ok (.iload_n 1, 1) := by decide +kernel
theorem dX4_readNot_6 : decode cX4_readNot 6 = .ok (.invokevirtual 119, 3) := by decide +kernel
theorem dX4_readNot_9 : decode cX4_readNot 9 = .ok (.istore_n 2, 1) := by decide +kernel
theorem dX4_readNot_10 : decode cX4_readNot 10 = .ok (.aload_n 0, 1) := by decide +kernel
theorem dX4_readNot_11 : decode cX4_readNot 11 = .ok (.getfield 25, 3) := by decide +kernel
theorem dX4_readNot_14 : decode cX4_readNot 14 = .ok (.bipush 41, 2) := by decide +kernel
theorem dX4_readNot_16 : decode cX4_readNot 16 = .ok (.iconst 0, 1) := by decide +kernel
theorem dX4_readNot_17 : decode cX4_readNot 17 = .ok (.invokevirtual 91, 3) := by decide +kernel
theorem dX4_readNot_20 : decode cX4_readNot 20 = .ok (.iload_n 2, 1) := by decide +kernel
theorem dX4_readNot_21 : decode cX4_readNot 21 = .ok (.ireturn, 1) := by decide +kernel
theorem dX4_go_0 : decode cX4_go 0 = .ok (.aload_n 0, 1) := by decide +kernel
theorem dX4_go_1 : decode cX4_go 1 = .ok (.getfield 34, 3) := by decide +kernel
theorem dX4_go_4 : decode cX4_go 4 = .ok (.aload_n 0, 1) := by decide +kernel
theorem dX4_go_5 : decode cX4_go 5 = .ok (.getfield 22, 3) := by decide +kernel
theorem dX4_go_8 : decode cX4_go 8 = .ok (.if_icmp .ge 44, 3) := by decide +kernel
theorem dX4_go_11 : decode cX4_go 11 = .ok (.aload_n 0, 1) := by decide +kernel
theorem dX4_go_12 : decode cX4_go 12 = .ok (.getfield 18, 3) := by decide +kernel
theorem dX4_go_15 : decode cX4_go 15 = .ok (.aload_n 0, 1) := by decide +kernel
theorem dX4_go_16 : decode cX4_go 16 = .ok (.getfield 34, 3) := by decide +kernel
theorem dX4_go_19 : decode cX4_go 19 = .ok (.iaload, 1) := by decide +kernel
theorem dX4_go_20 : decode cX4_go 20 = .ok (.bipush 32, 2) := by decide +kernel
theorem dX4_go_22 : decode cX4_go 22 = .ok (.if_icmp .eq 17, 3) := by decide +kernel
theorem dX4_go_25 : decode cX4_go 25 = .ok (.aload_n 0, 1) := by decide +kernel
theorem dX4_go_26 : decode cX4_go 26 = .ok (.getfield 18, 3) := by decide +kernel
theorem dX4_go_29 : decode cX4_go 29 = .ok (.aload_n 0, 1) := by decide +kernel
theorem dX4_go_30 : decode cX4_go 30 = .ok (.getfield 34, 3) := by decide +kernel
theorem dX4_go_33 : decode cX4_go 33 = .ok (.iaload, 1) := by decide +kernel
theorem dX4_go_34 : decode cX4_go 34 = .ok (.bipush 10, 2) := by decide +kernel
theorem dX4_go_36 : decode cX4_go 36 = .ok (.if_icmp .ne 16, 3) := by decide +kernel
theorem dX4_go_39 : decode cX4_go 39 = .ok (.aload_n 0, 1) := by decide +kernel
theorem dX4_go_40 : decode cX4_go 40 = .ok (.dup, 1) := by decide +kernel
theorem dX4_go_41 : decode cX4_go 41 = .ok (.getfield 34, 3) := by decide +kernel
theorem dX4_go_44 : decode cX4_go 44 = .ok (.iconst 1, 1) := by decide +kernel
theorem dX4_go_45 : decode cX4_go 45 = .ok (.iadd, 1) := by decide +kernel
theorem dX4_go_46 : decode cX4_go 46 = .ok (.putfield 34, 3) := by decide +kernel
theorem dX4_go_49 : decode cX4_go 49 = .ok (.goto (-49), 3) := by decide +kernel
theorem dX4_go_52 : decode cX4_go 52 = .ok (.aload_n 0, 1) := by decide +kernel
theorem dX4_go_53 : decode cX4_go 53 = .ok (.aload_n 0, 1) := by decide +kernel
theorem dX4_go_54 : decode cX4_go 54 = .ok (.getfield 34, 3) := by decide +kernel
theorem dX4_go_57 : decode cX4_go 57 = .ok (.putfield 47, 3) := by decide +kernel
theorem dX4_go_60 : decode cX4_go 60 = .ok (.aload_n 0, 1) := by decide +kernel
theorem dX4_go_61 : decode cX4_go 61 = .ok (.iconst 0, 1) := by decide +kernel
theorem dX4_go_62 : decode cX4_go 62 = .ok (.putfield 84, 3) := by decide +kernel
theorem dX4_go_65 : decode cX4_go 65 = .ok (.aload_n 0, 1) := by decide +kernel
theorem dX4_go_66 : decode cX4_go 66 = .ok (.getfield 34, 3) := by decide +kernel
theorem dX4_go_69 : decode cX4_go 69 = .ok (.aload_n 0, 1) := by decide +kernel
theorem dX4_go_70 : decode cX4_go 70 = .ok (.getfield 22, 3) := by decide +kernel
theorem dX4_go_73 : decode cX4_go 73 = .ok (.if_icmp .lt 11, 3) := by decide +kernel
theorem dX4_go_76 : decode cX4_go 76 = .ok (.aload_n 0, 1) := by decide +kernel
theorem dX4_go_77 : decode cX4_go 77 = .ok (.iconst 0, 1) := by decide +kernel
theorem dX4_go_78 : decode cX4_go 78 = .ok (.putfield 40, 3) := by decide +kernel
theorem dX4_go_81 : decode cX4_go 81 = .ok (.goto 51, 3) := by decide +kernel
theorem dX4_go_84 : decode cX4_go 84 = .ok (.aload_n 0, 1) := by decide +kernel
theorem dX4_go_85 : decode cX4_go 85 = .ok (.getfield 18, 3) := by decide +kernel
theorem dX4_go_88 : decode cX4_go 88 = .ok (.aload_n 0, 1) := by decide +kernel
theorem dX4_go_89 : decode cX4_go 89 = .ok (.getfield 34, 3) := by decide +kernel
theorem dX4_go_92 : decode cX4_go 92 = .ok (.iaload, 1) := by decide +kernel
theorem dX4_go_93 : decode cX4_go 93 = .ok (.invokestatic 125, 3) := by decide +kernel
theorem dX4_go_96 : decode cX4_go 96 = .ok (.ifCond .eq 10, 3) := by decide +kernel
theorem dX4_go_99 : decode cX4_go 99 = .ok (.aload_n 0, 1) := by decide +kernel
theorem dX4_go_100 : decode cX4_go 100 = .ok (.invokevirtual 128, 3) := by decide +kernel
theorem dX4_go_103 : decode cX4_go 103 = .ok (.goto 29, 3) := by decide +kernel
theorem dX4_go_106 : decode cX4_go 106 = .ok (.aload_n 0, 1) := by decide +kernel
theorem dX4_go_107 : decode cX4_go 107 = .ok (.getfield 18, 3) := by decide +kernel
theorem dX4_go_110 : decode cX4_go 110 = .ok (.aload_n 0, 1) := by decide +kernel
theorem dX4_go_111 : decode cX4_go 111 = .ok (.getfield 34, 3) := by decide +kernel
theorem dX4_go_114 : decode cX4_go 114 = .ok (.iaload, 1) := by decide +kernel
theorem dX4_go_115 : decode cX4_go 115 = .ok (.invokestatic 131, 3) := by decide +kernel
theorem dX4_go_118 : decode cX4_go 118 = .ok (.ifCond .eq 10, 3) := by decide +kernel
theorem dX4_go_121 : decode cX4_go 121 = .ok (.aload_n 0, 1) := by decide +kernel
theorem dX4_go_122 : decode cX4_go 122 = .ok (.invokevirtual 134, 3) := by decide +kernel
theorem dX4_go_125 : decode cX4_go 125 = .ok (.goto 7, 3) := by decide +kernel
theorem dX4_go_128 : decode cX4_go 128 = .ok (.aload_n 0, 1) := by decide +kernel
theorem dX4_go_129 : decode cX4_go 129 = .ok (.invokevirtual 137, 3) := by decide +kernel
theorem dX4_go_132 : decode cX4_go 132 = .ok (.return_, 1) := by decide +kernel
theorem dX4_isDigit_0 : decode cX4_isDigit 0 = .ok (.iload_n 0, 1) := by decide +kernel
theorem dX4_isDigit_1 : decode cX4_isDigit 1 = .ok (.bipush 48, 2) := by decide +kernel
theorem dX4_isDigit_3 : decode cX4_isDigit 3 = .ok (.if_icmp .lt 13, 3) := by decide +kernel
theorem dX4_isDigit_6 : decode cX4_isDigit 6 = .ok (.iload_n 0, 1) := by decide +kernel
theorem dX4_isDigit_7 : decode cX4_isDigit 7 = .ok (.bipush 57, 2) := by decide +kernel
theorem dX4_isDigit_9 : decode cX4_isDigit 9 = .ok (.if_icmp .gt 7, 3) := by decide +kernel
theorem dX4_isDigit_12 : decode cX4_isDigit 12 = .ok (.iconst 1, 1) := by decide +kernel
theorem dX4_isDigit_13 : decode cX4_isDigit 13 = .ok (.goto 4, 3) := by decide +kernel
theorem dX4_isDigit_16 : decode cX4_isDigit 16 = .ok (.iconst 0, 1) := by decide +kernel
theorem dX4_isDigit_17 : decode cX4_isDigit 17 = .ok (.ireturn, 1) := by decide +kernel
theorem dX4_isLetter_0 : decode cX4_isLetter 0 = .ok (.iload_n 0, 1) := by decide +kernel
theorem dX4_isLetter_1 : decode cX4_isLetter 1 = .ok (.bipush 97, 2) := by decide +kernel
theorem dX4_isLetter_3 : decode cX4_isLetter 3 = .ok (.if_icmp .lt 9, 3) := by decide +kernel
theorem dX4_isLetter_6 : decode cX4_isLetter 6 = .ok (.iload_n 0, 1) := by decide +kernel
theorem dX4_isLetter_7 : decode cX4_isLetter 7 = .ok (.bipush 122, 2) := by decide +kernel
theorem dX4_isLetter_9 : decode cX4_isLetter 9 = .ok (.if_icmp .le 15, 3) := by decide +kernel
theorem dX4_isLetter_12 : decode cX4_isLetter 12 = .ok (.iload_n 0, 1) := by decide +kernel
theorem dX4_isLetter_13 : decode cX4_isLetter 13 = .ok (.bipush 65, 2) := by decide +kernel
theorem dX4_isLetter_15 : decode cX4_isLetter 15 = .ok (.if_icmp .lt 13, 3) := by decide +kernel
theorem dX4_isLetter_18 : decode cX4_isLetter 18 = .ok (.iload_n 0, 1) := by decide +kernel
theorem dX4_isLetter_19 : decode cX4_isLetter 19 = .ok (.bipush 90, 2) := by decide +kernel
theorem dX4_isLetter_21 : decode cX4_isLetter 21 = .ok (.if_icmp .gt 7, 3) := by decide +kernel
theorem dX4_isLetter_24 : decode cX4_isLetter 24 = .ok (.iconst 1, 1) := by decide +kernel
theorem dX4_isLetter_25 : decode cX4_isLetter 25 = .ok (.goto 4, 3) := by decide +kernel
theorem dX4_isLetter_28 : decode cX4_isLetter 28 = .ok (.iconst 0, 1) := by decide +kernel
theorem dX4_isLetter_29 : decode cX4_isLetter 29 = .ok (.ireturn, 1) := by decide +kernel
theorem dX4_goNumber_0 : decode cX4_goNumber 0 = .ok (.aload_n 0, 1) := by decide +kernel
theorem dX4_goNumber_1 : decode cX4_goNumber 1 = .ok (.iconst 2, 1) := by decide +kernel
theorem dX4_goNumber_2 : decode cX4_goNumber 2 = .ok (.putfield 40, 3) := by decide +kernel
theorem dX4_goNumber_5 : decode cX4_goNumber 5 = .ok (.aload_n 0, 1) := by decide +kernel
theorem dX4_goNumber_6 : decode cX4_goNumber 6 = .ok (.getfield 34, 3) := by decide +kernel
theorem dX4_goNumber_9 : decode cX4_goNumber 9 = .ok (.aload_n 0, 1) := by decide +kernel
theorem dX4_goNumber_10 : decode cX4_goNumber 10 = .ok (.getfield 22, 3) := by decide +kernel
theorem dX4_goNumber_13 : decode cX4_goNumber 13 = .ok (.if_icmp .ge 61, 3) := by decide +kernel
theorem dX4_goNumber_16 : decode cX4_goNumber 16 = .ok (.aload_n 0, 1) := by decide +kernel
theorem dX4_goNumber_17 : decode cX4_goNumber 17 = .ok (.getfield 18, 3) := by decide +kernel
theorem dX4_goNumber_20 : decode cX4_goNumber 20 = .ok (.aload_n 0, 1) := by decide +kernel
theorem dX4_goNumber_21 : decode cX4_goNumber 21 = .ok (.getfield 34, 3) := by decide +kernel
theorem dX4_goNumber_24 : decode cX4_goNumber 24 = .ok (.iaload, 1) := by decide +kernel
theorem dX4_goNumber_25 : decode cX4_goNumber 25 = .ok (.invokestatic 125, 3) := by decide +kernel
theorem dX4_goNumber_28 : decode cX4_goNumber 28 = .ok (.ifCond .eq 46, 3) := by decide +kernel
theorem dX4_goNumber_31 : decode cX4_goNumber 31 = .ok (.aload_n 0, 1) := by decide +kernel
theorem dX4_goNumber_32 : decode cX4_goNumber 32 = .ok (.aload_n 0, 1) := by decide +kernel
theorem dX4_goNumber_33 : decode cX4_goNumber 33 = .ok (.getfield 84, 3) := by decide +kernel
theorem dX4_goNumber_36 : decode cX4_goNumber 36 = .ok (.bipush 10, 2) := by decide +kernel
theorem dX4_goNumber_38 : decode cX4_goNumber 38 = .ok (.imul, 1) := by decide +kernel
theorem dX4_goNumber_39 : decode cX4_goNumber 39 = .ok (.aload_n 0, 1) := by decide +kernel
theorem dX4_goNumber_40 : decode cX4_goNumber 40 = .ok (.getfield 18, 3) := by decide +kernel
theorem dX4_goNumber_43 : decode cX4_goNumber 43 = .ok (.aload_n 0, 1) := by decide +kernel
theorem dX4_goNumber_44 : decode cX4_goNumber 44 = .ok (.getfield 34, 3) := by decide +kernel
theorem dX4_goNumber_47 : decode cX4_goNumber 47 = .ok (.iaload, 1) := by decide +kernel
theorem dX4_goNumber_48 : decode cX4_goNumber 48 = .ok (.iadd, 1) := by decide +kernel
theorem dX4_goNumber_49 : decode cX4_goNumber 49 = .ok (.bipush 48, 2) := by decide +kernel
theorem dX4_goNumber_51 : decode cX4_goNumber 51 = .ok (.isub, 1) := by decide +kernel
theorem dX4_goNumber_52 : decode cX4_goNumber 52 = .ok (.sipush 10000, 3) := by decide +kernel
theorem dX4_goNumber_55 : decode cX4_goNumber 55 = .ok (.invokestatic 140, 3) := by decide +kernel
theorem dX4_goNumber_58 : decode cX4_goNumber 58 = .ok (.putfield 84, 3) := by decide +kernel
theorem dX4_goNumber_61 : decode cX4_goNumber 61 = .ok (.aload_n 0, 1) := by decide +kernel
theorem dX4_goNumber_62 : decode cX4_goNumber 62 = .ok (.dup, 1) := by decide +kernel
theorem dX4_goNumber_63 : decode cX4_goNumber 63 = .ok (.getfield 34, 3) := by decide +kernel
theorem dX4_goNumber_66 : decode cX4_goNumber 66 = .ok (.iconst 1, 1) := by decide +kernel
theorem dX4_goNumber_67 : decode cX4_goNumber 67 = .ok (.iadd, 1) := by decide +kernel
theorem dX4_goNumber_68 : decode cX4_goNumber 68 = .ok (.putfield 34, 3) := by decide +kernel
theorem dX4_goNumber_71 : decode cX4_goNumber 71 = .ok (.goto (-66), 3) := by decide +kernel
theorem dX4_goNumber_74 : decode cX4_goNumber 74 = .ok (.return_, 1) := by decide +kernel
theorem dX4_goWord_0 : decode cX4_goWord 0 = .ok (.aload_n 0, 1) := by decide +kernel
theorem dX4_goWord_1 : decode cX4_goWord 1 = .ok (.getfield 34, 3) := by decide +kernel
theorem dX4_goWord_4 : decode cX4_goWord 4 = .ok (.aload_n 0, 1) := by decide +kernel
theorem dX4_goWord_5 : decode cX4_goWord 5 = .ok (.getfield 22, 3) := by decide +kernel
theorem dX4_goWord_8 : decode cX4_goWord 8 = .ok (.if_icmp .ge 31, 3) := by decide +kernel
theorem dX4_goWord_11 : decode cX4_goWord 11 = .ok (.aload_n 0, 1) := by decide +kernel
theorem dX4_goWord_12 : decode cX4_goWord 12 = .ok (.getfield 18, 3) := by decide +kernel
theorem dX4_goWord_15 : decode cX4_goWord 15 = .ok (.aload_n 0, 1) := by decide +kernel
theorem dX4_goWord_16 : decode cX4_goWord 16 = .ok (.getfield 34, 3) := by decide +kernel
theorem dX4_goWord_19 : decode cX4_goWord 19 = .ok (.iaload, 1) := by decide +kernel
theorem dX4_goWord_20 : decode cX4_goWord 20 = .ok (.invokestatic 131, 3) := by decide +kernel
theorem dX4_goWord_23 : decode cX4_goWord 23 = .ok (.ifCond .eq 16, 3) := by decide +kernel
theorem dX4_goWord_26 : decode cX4_goWord 26 = .ok (.aload_n 0, 1) := by decide +kernel
theorem dX4_goWord_27 : decode cX4_goWord 27 = .ok (.dup, 1) := by decide +kernel
theorem dX4_goWord_28 : decode cX4_goWord 28 = .ok (.getfield 34, 3) := by decide +kernel
theorem dX4_goWord_31 : decode cX4_goWord 31 = .ok (.iconst 1, 1) := by decide +kernel
theorem dX4_goWord_32 : decode cX4_goWord 32 = .ok (.iadd, 1) := by decide +kernel
theorem dX4_goWord_33 : decode cX4_goWord 33 = .ok (.putfield 34, 3) := by decide +kernel
theorem dX4_goWord_36 : decode cX4_goWord 36 = .ok (.goto (-36), 3) := by decide +kernel
theorem dX4_goWord_39 : decode cX4_goWord 39 = .ok (.aload_n 0, 1) := by decide +kernel
theorem dX4_goWord_40 : decode cX4_goWord 40 = .ok (.iconst 1, 1) := by decide +kernel
theorem dX4_goWord_41 : decode cX4_goWord 41 = .ok (.putfield 40, 3) := by decide +kernel
theorem dX4_goWord_44 : decode cX4_goWord 44 = .ok (.bipush 16, 2) := by decide +kernel
theorem dX4_goWord_46 : decode cX4_goWord 46 = .ok (.istore_n 1, 1) := by decide +kernel
theorem dX4_goWord_47 : decode cX4_goWord 47 = .ok (.aload_n 0, 1) := by decide +kernel
theorem dX4_goWord_48 : decode cX4_goWord 48 = .ok (.getfield 47, 3) := by decide +kernel
theorem dX4_goWord_51 : decode cX4_goWord 51 = .ok (.istore_n 2, 1) := by decide +kernel
theorem dX4_goWord_52 : decode cX4_goWord 52 = .ok (.iconst 0, 1) := by decide +kernel
theorem dX4_goWord_53 : decode cX4_goWord 53 = .ok (.istore_n 3, 1) := by decide +kernel
theorem dX4_goWord_54 : decode cX4_goWord 54 = .ok (.iload_n 3, 1) := by decide +kernel
theorem dX4_goWord_55 : decode cX4_goWord 55 = .ok (.ldc 146, 2) := by decide +kernel
theorem dX4_goWord_57 : decode cX4_goWord 57 = .ok (.invokevirtual 148, 3) := by decide +kernel
theorem dX4_goWord_60 : decode cX4_goWord 60 = .ok (.if_icmp .ge 90, 3) := by decide +kernel
theorem dX4_goWord_63 : decode cX4_goWord 63 = .ok (.aload_n 0, 1) := by decide +kernel
theorem dX4_goWord_64 : decode cX4_goWord 64 = .ok (.getfield 40, 3) := by decide +kernel
theorem dX4_goWord_67 : decode cX4_goWord 67 = .ok (.iconst 1, 1) := by decide +kernel
theorem dX4_goWord_68 : decode cX4_goWord 68 = .ok (.if_icmp .ne 82, 3) := by decide +kernel
theorem dX4_goWord_71 : decode cX4_goWord 71 = .ok (.ldc 146, 2) := by decide +kernel
theorem dX4_goWord_73 : decode cX4_goWord 73 = .ok (.iload_n 3, 1) := by decide +kernel
theorem dX4_goWord_74 : decode cX4_goWord 74 = .ok (.invokevirtual 153, 3) := by decide +kernel
theorem dX4_goWord_77 : decode cX4_goWord 77 = .ok (.istore 4, 2) := by decide +kernel
theorem dX4_goWord_79 : decode cX4_goWord 79 = .ok (.iload 4, 2) := by decide +kernel
theorem dX4_goWord_81 : decode cX4_goWord 81 = .ok (.bipush 32, 2) := by decide +kernel
theorem dX4_goWord_83 : decode cX4_goWord 83 = .ok (.if_icmp .eq 37, 3) := by decide +kernel
theorem dX4_goWord_86 : decode cX4_goWord 86 = .ok (.iload_n 2, 1) := by decide +kernel
theorem dX4_goWord_87 : decode cX4_goWord 87 = .ok (.ifCond .lt 28, 3) := by decide +kernel
theorem dX4_goWord_90 : decode cX4_goWord 90 = .ok (.iload_n 2, 1) := by decide +kernel
theorem dX4_goWord_91 : decode cX4_goWord 91 = .ok (.aload_n 0, 1) := by decide +kernel
theorem dX4_goWord_92 : decode cX4_goWord 92 = .ok (.getfield 34, 3) := by decide +kernel
theorem dX4_goWord_95 : decode cX4_goWord 95 = .ok (.if_icmp .ge 20, 3) := by decide +kernel
theorem dX4_goWord_98 : decode cX4_goWord 98 = .ok (.aload_n 0, 1) := by decide +kernel
theorem dX4_goWord_99 : decode cX4_goWord 99 = .ok (.getfield 18, 3) := by decide +kernel
theorem dX4_goWord_102 : decode cX4_goWord 102 = .ok (.iload_n 2, 1) := by decide +kernel
theorem dX4_goWord_103 : decode cX4_goWord 103 = .ok (.iaload, 1) := by decide +kernel
theorem dX4_goWord_104 : decode cX4_goWord 104 = .ok (.iload 4, 2) := by decide +kernel
theorem dX4_goWord_106 : decode cX4_goWord 106 = .ok (.if_icmp .ne 9, 3) := by decide +kernel
theorem dX4_goWord_109 : decode cX4_goWord 109 = .ok (.iload_n 2, 1) := by decide +kernel
theorem dX4_goWord_110 : decode cX4_goWord 110 = .ok (.iconst 1, 1) := by decide +kernel
theorem dX4_goWord_111 : decode cX4_goWord 111 = .ok (.iadd, 1) := by decide +kernel
theorem dX4_goWord_112 : decode cX4_goWord 112 = .ok (.goto 4, 3) := by decide +kernel
theorem dX4_goWord_115 : decode cX4_goWord 115 = .ok (.iconst (-1), 1) := by decide +kernel
theorem dX4_goWord_116 : decode cX4_goWord 116 = .ok (.istore_n 2, 1) := by decide +kernel
theorem dX4_goWord_117 : decode cX4_goWord 117 = .ok (.goto 27, 3) := by decide +kernel
theorem dX4_goWord_120 : decode cX4_goWord 120 = .ok (.iload_n 2, 1) := by decide +kernel
theorem dX4_goWord_121 : decode cX4_goWord 121 = .ok (.aload_n 0, 1) := by decide +kernel
theorem dX4_goWord_122 : decode cX4_goWord 122 = .ok (.getfield 34, 3) := by decide +kernel
theorem dX4_goWord_125 : decode cX4_goWord 125 = .ok (.if_icmp .ne 11, 3) := by decide +kernel
theorem dX4_goWord_128 : decode cX4_goWord 128 = .ok (.aload_n 0, 1) := by decide +kernel
theorem dX4_goWord_129 : decode cX4_goWord 129 = .ok (.iload_n 1, 1) := by decide +kernel
theorem dX4_goWord_130 : decode cX4_goWord 130 = .ok (.putfield 40, 3) := by decide +kernel
theorem dX4_goWord_133 : decode cX4_goWord 133 = .ok (.goto 11, 3) := by decide +kernel
theorem dX4_goWord_136 : decode cX4_goWord 136 = .ok (.iinc 1 1, 3) := by decide +kernel
theorem dX4_goWord_139 : decode cX4_goWord 139 = .ok (.aload_n 0, 1) := by decide +kernel
theorem dX4_goWord_140 : decode cX4_goWord 140 = .ok (.getfield 47, 3) := by decide +kernel
theorem dX4_goWord_143 : decode cX4_goWord 143 = .ok (.istore_n 2, 1) := by decide +kernel
theorem dX4_goWord_144 : decode cX4_goWord 144 = .ok (.iinc 3 1, 3) := by decide +kernel
theorem dX4_goWord_147 : decode cX4_goWord 147 = .ok (.goto (-93), 3) := by decide +kernel
theorem dX4_goWord_150 : decode cX4_goWord 150 = .ok (.return_, 1) := by decide +kernel
theorem dX4_goSign_0 : decode cX4_goSign 0 = .ok (.aload_n 0, 1) := by decide +kernel
theorem dX4_goSign_1 : decode cX4_goSign 1 = .ok (.getfield 18, 3) := by decide +kernel
theorem dX4_goSign_4 : decode cX4_goSign 4 = .ok (.aload_n 0, 1) := by decide +kernel
theorem dX4_goSign_5 : decode cX4_goSign 5 = .ok (.getfield 34, 3) := by decide +kernel
theorem dX4_goSign_8 : decode cX4_goSign 8 = .ok (.iaload, 1) := by decide +kernel
theorem dX4_goSign_9 : decode cX4_goSign 9 = .ok (.istore_n 1, 1) := by decide +kernel
theorem dX4_goSign_10 : decode cX4_goSign 10 = .ok (.aload_n 0, 1) := by decide +kernel
theorem dX4_goSign_11 : decode cX4_goSign 11 = .ok (.dup, 1) := by decide +kernel
theorem dX4_goSign_12 : decode cX4_goSign 12 = .ok (.getfield 34, 3) := by decide +kernel
theorem dX4_goSign_15 : decode cX4_goSign 15 = .ok (.iconst 1, 1) := by decide +kernel
theorem dX4_goSign_16 : decode cX4_goSign 16 = .ok (.iadd, 1) := by decide +kernel
theorem dX4_goSign_17 : decode cX4_goSign 17 = .ok (.putfield 34, 3) := by decide +kernel
theorem dX4_goSign_20 : decode cX4_goSign 20 = .ok (.aload_n 0, 1) := by decide +kernel
theorem dX4_goSign_21 : decode cX4_goSign 21 = .ok (.getfield 34, 3) := by decide +kernel
theorem dX4_goSign_24 : decode cX4_goSign 24 = .ok (.aload_n 0, 1) := by decide +kernel
theorem dX4_goSign_25 : decode cX4_goSign 25 = .ok (.getfield 22, 3) := by decide +kernel
theorem dX4_goSign_28 : decode cX4_goSign 28 = .ok (.if_icmp .ge 33, 3) := by decide +kernel
theorem dX4_goSign_31 : decode cX4_goSign 31 = .ok (.aload_n 0, 1) := by decide +kernel
theorem dX4_goSign_32 : decode cX4_goSign 32 = .ok (.getfield 18, 3) := by decide +kernel
theorem dX4_goSign_35 : decode cX4_goSign 35 = .ok (.aload_n 0, 1) := by decide +kernel
theorem dX4_goSign_36 : decode cX4_goSign 36 = .ok (.getfield 34, 3) := by decide +kernel
theorem dX4_goSign_39 : decode cX4_goSign 39 = .ok (.iaload, 1) := by decide +kernel
theorem dX4_goSign_40 : decode cX4_goSign 40 = .ok (.bipush 61, 2) := by decide +kernel
theorem dX4_goSign_42 : decode cX4_goSign 42 = .ok (.if_icmp .ne 19, 3) := by decide +kernel
theorem dX4_goSign_45 : decode cX4_goSign 45 = .ok (.iload_n 1, 1) := by decide +kernel
theorem dX4_goSign_46 : decode cX4_goSign 46 = .ok (.bipush 60, 2) := by decide +kernel
theorem dX4_goSign_48 : decode cX4_goSign 48 = .ok (.if_icmp .eq 9, 3) := by decide +kernel
theorem dX4_goSign_51 : decode cX4_goSign 51 = .ok (.iload_n 1, 1) := by decide +kernel
theorem dX4_goSign_52 : decode cX4_goSign 52 = .ok (.bipush 62, 2) := by decide +kernel
theorem dX4_goSign_54 : decode cX4_goSign 54 = .ok (.if_icmp .ne 7, 3) := by decide +kernel
theorem dX4_goSign_57 : decode cX4_goSign 57 = .ok (.iconst 1, 1) := by decide +kernel
theorem dX4_goSign_58 : decode cX4_goSign 58 = .ok (.goto 4, 3) := by decide +kernel
theorem dX4_goSign_61 : decode cX4_goSign 61 = .ok (.iconst 0, 1) := by decide +kernel
theorem dX4_goSign_62 : decode cX4_goSign 62 = .ok (.istore_n 2, 1) := by decide +kernel
theorem dX4_goSign_63 : decode cX4_goSign 63 = .ok (.aload_n 0, 1) := by decide +kernel
theorem dX4_goSign_64 : decode cX4_goSign 64 = .ok (.dup, 1) := by decide +kernel
theorem dX4_goSign_65 : decode cX4_goSign 65 = .ok (.getfield 34, 3) := by decide +kernel
theorem dX4_goSign_68 : decode cX4_goSign 68 = .ok (.iload_n 2, 1) := by decide +kernel
theorem dX4_goSign_69 : decode cX4_goSign 69 = .ok (.ifCond .eq 7, 3) := by decide +kernel
theorem dX4_goSign_72 : decode cX4_goSign 72 = .ok (.iconst 1, 1) := by decide +kernel
theorem dX4_goSign_73 : decode cX4_goSign 73 = .ok (.goto 4, 3) := by decide +kernel
theorem dX4_goSign_76 : decode cX4_goSign 76 = .ok (.iconst 0, 1) := by decide +kernel
theorem dX4_goSign_77 : decode cX4_goSign 77 = .ok (.iadd, 1) := by decide +kernel
theorem dX4_goSign_78 : decode cX4_goSign 78 = .ok (.putfield 34, 3) := by decide +kernel
theorem dX4_goSign_81 : decode cX4_goSign 81 = .ok (.iload_n 1, 1) := by decide +kernel
theorem dX4_goSign_82 : decode cX4_goSign 82 = .ok (.tableswitch 240 35 62 #[231, 240, 240, 240, 240, 126, 134, 168, 150, 240, 159, 240, 177, 240, 240, 240, 240, 240, 240, 240, 240, 240, 240, 240, 142, 186, 222, 204], 126) := by decide +kernel
theorem dX4_goSign_208 : decode cX4_goSign 208 = .ok (.aload_n 0, 1) := by decide +kernel
theorem dX4_goSign_209 : decode cX4_goSign 209 = .ok (.iconst 3, 1) := by decide +kernel
theorem dX4_goSign_210 : decode cX4_goSign 210 = .ok (.putfield 40, 3) := by decide +kernel
theorem dX4_goSign_213 : decode cX4_goSign 213 = .ok (.goto 114, 3) := by decide +kernel
theorem dX4_goSign_216 : decode cX4_goSign 216 = .ok (.aload_n 0, 1) := by decide +kernel
theorem dX4_goSign_217 : decode cX4_goSign 217 = .ok (.iconst 4, 1) := by decide +kernel
theorem dX4_goSign_218 : decode cX4_goSign 218 = .ok (.putfield 40, 3) := by decide +kernel
theorem dX4_goSign_221 : decode cX4_goSign 221 = .ok (.goto 106, 3) := by decide +kernel
theorem dX4_goSign_224 : decode cX4_goSign 224 = .ok (.aload_n 0, 1) := by decide +kernel
theorem dX4_goSign_225 : decode cX4_goSign 225 = .ok (.iconst 5, 1) := by decide +kernel
theorem dX4_goSign_226 : decode cX4_goSign 226 = .ok (.putfield 40, 3) := by decide +kernel
theorem dX4_goSign_229 : decode cX4_goSign 229 = .ok (.goto 98, 3) := by decide +kernel
theorem dX4_goSign_232 : decode cX4_goSign 232 = .ok (.aload_n 0, 1) := by decide +kernel
theorem dX4_goSign_233 : decode cX4_goSign 233 = .ok (.bipush 6, 2) := by decide +kernel
theorem dX4_goSign_235 : decode cX4_goSign 235 = .ok (.putfield 40, 3) := by decide +kernel
theorem dX4_goSign_238 : decode cX4_goSign 238 = .ok (.goto 89, 3) := by decide +kernel
theorem dX4_goSign_241 : decode cX4_goSign 241 = .ok (.aload_n 0, 1) := by decide +kernel
theorem dX4_goSign_242 : decode cX4_goSign 242 = .ok (.bipush 7, 2) := by decide +kernel
theorem dX4_goSign_244 : decode cX4_goSign 244 = .ok (.putfield 40, 3) := by decide +kernel
theorem dX4_goSign_247 : decode cX4_goSign 247 = .ok (.goto 80, 3) := by decide +kernel
theorem dX4_goSign_250 : decode cX4_goSign 250 = .ok (.aload_n 0, 1) := by decide +kernel
theorem dX4_goSign_251 : decode cX4_goSign 251 = .ok (.bipush 8, 2) := by decide +kernel
theorem dX4_goSign_253 : decode cX4_goSign 253 = .ok (.putfield 40, 3) := by decide +kernel
theorem dX4_goSign_256 : decode cX4_goSign 256 = .ok (.goto 71, 3) := by decide +kernel
theorem dX4_goSign_259 : decode cX4_goSign 259 = .ok (.aload_n 0, 1) := by decide +kernel
theorem dX4_goSign_260 : decode cX4_goSign 260 = .ok (.bipush 9, 2) := by decide +kernel
theorem dX4_goSign_262 : decode cX4_goSign 262 = .ok (.putfield 40, 3) := by decide +kernel
theorem dX4_goSign_265 : decode cX4_goSign 265 = .ok (.goto 62, 3) := by decide +kernel
theorem dX4_goSign_268 : decode cX4_goSign 268 = .ok (.aload_n 0, 1) := by decide +kernel
theorem dX4_goSign_269 : decode cX4_goSign 269 = .ok (.iload_n 2, 1) := by decide +kernel
theorem dX4_goSign_270 : decode cX4_goSign 270 = .ok (.ifCond .eq 8, 3) := by decide +kernel
theorem dX4_goSign_273 : decode cX4_goSign 273 = .ok (.bipush 11, 2) := by decide +kernel
theorem dX4_goSign_275 : decode cX4_goSign 275 = .ok (.goto 5, 3) := by decide +kernel
theorem dX4_goSign_278 : decode cX4_goSign 278 = .ok (.bipush 10, 2) := by decide +kernel
theorem dX4_goSign_280 : decode cX4_goSign 280 = .ok (.putfield 40, 3) := by decide +kernel
theorem dX4_goSign_283 : decode cX4_goSign 283 = .ok (.goto 44, 3) := by decide +kernel
theorem dX4_goSign_286 : decode cX4_goSign 286 = .ok (.aload_n 0, 1) := by decide +kernel
theorem dX4_goSign_287 : decode cX4_goSign 287 = .ok (.iload_n 2, 1) := by decide +kernel
theorem dX4_goSign_288 : decode cX4_goSign 288 = .ok (.ifCond .eq 8, 3) := by decide +kernel
theorem dX4_goSign_291 : decode cX4_goSign 291 = .ok (.bipush 13, 2) := by decide +kernel
theorem dX4_goSign_293 : decode cX4_goSign 293 = .ok (.goto 5, 3) := by decide +kernel
theorem dX4_goSign_296 : decode cX4_goSign 296 = .ok (.bipush 12, 2) := by decide +kernel
theorem dX4_goSign_298 : decode cX4_goSign 298 = .ok (.putfield 40, 3) := by decide +kernel
theorem dX4_goSign_301 : decode cX4_goSign 301 = .ok (.goto 26, 3) := by decide +kernel
theorem dX4_goSign_304 : decode cX4_goSign 304 = .ok (.aload_n 0, 1) := by decide +kernel
theorem dX4_goSign_305 : decode cX4_goSign 305 = .ok (.bipush 14, 2) := by decide +kernel
theorem dX4_goSign_307 : decode cX4_goSign 307 = .ok (.putfield 40, 3) := by decide +kernel
theorem dX4_goSign_310 : decode cX4_goSign 310 = .ok (.goto 17, 3) := by decide +kernel
theorem dX4_goSign_313 : decode cX4_goSign 313 = .ok (.aload_n 0, 1) := by decide +kernel
theorem dX4_goSign_314 : decode cX4_goSign 314 = .ok (.bipush 15, 2) := by decide +kernel
theorem dX4_goSign_316 : decode cX4_goSign 316 = .ok (.putfield 40, 3) := by decide +kernel
theorem dX4_goSign_319 : decode cX4_goSign 319 = .ok (.goto 8, 3) := by decide +kernel
theorem dX4_goSign_322 : decode cX4_goSign 322 = .ok (.aload_n 0, 1) := by decide +kernel
theorem dX4_goSign_323 : decode cX4_goSign 323 = .ok (.iconst 1, 1) := by decide +kernel
theorem dX4_goSign_324 : decode cX4_goSign 324 = .ok (.putfield 40, 3) := by decide +kernel
theorem dX4_goSign_327 : decode cX4_goSign 327 = .ok (.return_, 1) := by decide +kernel
theorem dX5_init_0 : decode cX5_init 0 = .ok (.aload_n 0, 1) := by decide +kernel
theorem dX5_init_1 : decode cX5_init 1 = .ok (.invokespecial 3, 3) := by decide +kernel
theorem dX5_init_4 : decode cX5_init 4 = .ok (.aload_n 0, 1) := by decide +kernel
theorem dX5_init_5 : decode cX5_init 5 = .ok (.bipush 12, 2) := by decide +kernel
theorem dX5_init_7 : decode cX5_init 7 = .ok (.newarray .int, 2) := by decide +kernel
theorem dX5_init_9 : decode cX5_init 9 = .ok (.putfield 9, 3) := by decide +kernel
theorem dX5_init_12 : decode cX5_init 12 = .ok (.aload_n 0, 1) := by decide +kernel
theorem dX5_init_13 : decode cX5_init 13 = .ok (.bipush 6, 2) := by decide +kernel
theorem dX5_init_15 : decode cX5_init 15 = .ok (.newarray .int, 2) := by decide +kernel
theorem dX5_init_17 : decode cX5_init 17 = .ok (.putfield 15, 3) := by decide +kernel
theorem dX5_init_20 : decode cX5_init 20 = .ok (.return_, 1) := by decide +kernel
theorem dX5_depthBehind_0 : decode cX5_depthBehind 0 = .ok (.aload_n 1, 1) := by decide +kernel
theorem dX5_depthBehind_1 : decode cX5_depthBehind 1 = .ok (.getfield 18, 3) := by decide +kernel
theorem dX5_depthBehind_4 : decode cX5_depthBehind 4 = .ok (.getfield 24, 3) := by decide +kernel
theorem dX5_depthBehind_7 : decode cX5_depthBehind 7 = .ok (.iload_n 3, 1) := by decide +kernel
theorem dX5_depthBehind_8 : decode cX5_depthBehind 8 = .ok (.iaload, 1) := by decide +kernel
theorem dX5_depthBehind_9 : decode cX5_depthBehind 9 = .ok (.istore 4, 2) := by decide +kernel
theorem dX5_depthBehind_11 : decode cX5_depthBehind 11 = .ok (.aload_n 1, 1) := by decide +kernel
theorem dX5_depthBehind_12 : decode cX5_depthBehind 12 = .ok (.getfield 18, 3) := by decide +kernel
theorem dX5_depthBehind_15 : decode cX5_depthBehind 15 = .ok (.getfield 29, 3) := by decide +kernel
theorem dX5_depthBehind_18 : decode cX5_depthBehind 18 = .ok (.iload_n 2, 1) := by decide +kernel
theorem dX5_depthBehind_19 : decode cX5_depthBehind 19 = .ok (.iadd, 1) := by decide +kernel
theorem dX5_depthBehind_20 : decode cX5_depthBehind 20 = .ok (.sipush 9999, 3) := by decide +kernel
theorem dX5_depthBehind_23 : decode cX5_depthBehind 23 = .ok (.invokestatic 33, 3) := by decide +kernel
theorem dX5_depthBehind_26 : decode cX5_depthBehind 26 = .ok (.istore 5, 2) := by decide +kernel
theorem dX5_depthBehind_28 : decode cX5_depthBehind 28 = .ok (.aload_n 1, 1) := by decide +kernel
theorem dX5_depthBehind_29 : decode cX5_depthBehind 29 = .ok (.iload_n 3, 1) := by decide +kernel
theorem dX5_depthBehind_30 : decode cX5_depthBehind 30 = .ok (.invokevirtual 39, 3) := by decide +kernel
theorem dX5_depthBehind_33 : decode cX5_depthBehind 33 = .ok (.ifCond .ne 6, 3) := by decide +kernel
theorem dX5_depthBehind_36 : decode cX5_depthBehind 36 = .ok (.iload 4, 2) := by decide +kernel
theorem dX5_depthBehind_38 : decode cX5_depthBehind 38 = .ok (.ireturn, 1) := by decide +kernel
theorem dX5_depthBehind_39 : decode cX5_depthBehind 39 = .ok (.iload 5, 2) := by decide +kernel
theorem dX5_depthBehind_41 : decode cX5_depthBehind 41 = .ok (.bipush 10, 2) := by decide +kernel
theorem dX5_depthBehind_43 : decode cX5_depthBehind 43 = .ok (.idiv, 1) := by decide +kernel
theorem dX5_depthBehind_44 : decode cX5_depthBehind 44 = .ok (.aload_n 1, 1) := by decide +kernel
theorem dX5_depthBehind_45 : decode cX5_depthBehind 45 = .ok (.getfield 18, 3) := by decide +kernel
theorem dX5_depthBehind_48 : decode cX5_depthBehind 48 = .ok (.getfield 29, 3) := by decide +kernel
theorem dX5_depthBehind_51 : decode cX5_depthBehind 51 = .ok (.bipush 10, 2) := by decide +kernel
theorem dX5_depthBehind_53 : decode cX5_depthBehind 53 = .ok (.idiv, 1) := by decide +kernel
theorem dX5_depthBehind_54 : decode cX5_depthBehind 54 = .ok (.isub, 1) := by decide +kernel
theorem dX5_depthBehind_55 : decode cX5_depthBehind 55 = .ok (.istore 6, 2) := by decide +kernel
theorem dX5_depthBehind_57 : decode cX5_depthBehind 57 = .ok (.aload_n 1, 1) := by decide +kernel
theorem dX5_depthBehind_58 : decode cX5_depthBehind 58 = .ok (.getfield 43, 3) := by decide +kernel
theorem dX5_depthBehind_61 : decode cX5_depthBehind 61 = .ok (.iload_n 3, 1) := by decide +kernel
theorem dX5_depthBehind_62 : decode cX5_depthBehind 62 = .ok (.iaload, 1) := by decide +kernel
theorem dX5_depthBehind_63 : decode cX5_depthBehind 63 = .ok (.iload 4, 2) := by decide +kernel
theorem dX5_depthBehind_65 : decode cX5_depthBehind 65 = .ok (.iload 6, 2) := by decide +kernel
theorem dX5_depthBehind_67 : decode cX5_depthBehind 67 = .ok (.iadd, 1) := by decide +kernel
theorem dX5_depthBehind_68 : decode cX5_depthBehind 68 = .ok (.invokestatic 33, 3) := by decide +kernel
theorem dX5_depthBehind_71 : decode cX5_depthBehind 71 = .ok (.ireturn, 1) := by decide +kernel
theorem dX5_setToPress_0 : decode cX5_setToPress 0 = .ok (.aload_n 1, 1) := by decide +kernel
theorem dX5_setToPress_1 : decode cX5_setToPress 1 = .ok (.invokevirtual 46, 3) := by decide +kernel
theorem dX5_setToPress_4 : decode cX5_setToPress 4 = .ok (.istore_n 2, 1) := by decide +kernel
theorem dX5_setToPress_5 : decode cX5_setToPress 5 = .ok (.aload_n 0, 1) := by decide +kernel
theorem dX5_setToPress_6 : decode cX5_setToPress 6 = .ok (.aload_n 1, 1) := by decide +kernel
theorem dX5_setToPress_7 : decode cX5_setToPress 7 = .ok (.iconst 1, 1) := by decide +kernel
theorem dX5_setToPress_8 : decode cX5_setToPress 8 = .ok (.invokevirtual 50, 3) := by decide +kernel
theorem dX5_setToPress_11 : decode cX5_setToPress 11 = .ok (.iload_n 2, 1) := by decide +kernel
theorem dX5_setToPress_12 : decode cX5_setToPress 12 = .ok (.iand, 1) := by decide +kernel
theorem dX5_setToPress_13 : decode cX5_setToPress 13 = .ok (.istore_n 3, 1) := by decide +kernel
theorem dX5_setToPress_14 : decode cX5_setToPress 14 = .ok (.aload_n 0, 1) := by decide +kernel
theorem dX5_setToPress_15 : decode cX5_setToPress 15 = .ok (.aload_n 1, 1) := by decide +kernel
theorem dX5_setToPress_16 : decode cX5_setToPress 16 = .ok (.iconst 0, 1) := by decide +kernel
theorem dX5_setToPress_17 : decode cX5_setToPress 17 = .ok (.invokevirtual 50, 3) := by decide +kernel
theorem dX5_setToPress_20 : decode cX5_setToPress 20 = .ok (.iload_n 2, 1) := by decide +kernel
theorem dX5_setToPress_21 : decode cX5_setToPress 21 = .ok (.iand, 1) := by decide +kernel
theorem dX5_setToPress_22 : decode cX5_setToPress 22 = .ok (.istore 4, 2) := by decide +kernel
theorem dX5_setToPress_24 : decode cX5_setToPress 24 = .ok (.iconst (-1), 1) := by decide +kernel
theorem dX5_setToPress_25 : decode cX5_setToPress 25 = .ok (.istore 5, 2) := by decide +kernel
theorem dX5_setToPress_27 : decode cX5_setToPress 27 = .ok (.ldc 54, 2) := by decide +kernel
theorem dX5_setToPress_29 : decode cX5_setToPress 29 = .ok (.istore 6, 2) := by decide +kernel
theorem dX5_setToPress_31 : decode cX5_setToPress 31 = .ok (.iconst 0, 1) := by decide +kernel
theorem dX5_setToPress_32 : decode cX5_setToPress 32 = .ok (.istore 7, 2) := by decide +kernel
theorem dX5_setToPress_34 : decode cX5_setToPress 34 = .ok (.iconst 0, 1) := by decide +kernel
theorem dX5_setToPress_35 : decode cX5_setToPress 35 = .ok (.istore 8, 2) := by decide +kernel
theorem dX5_setToPress_37 : decode cX5_setToPress 37 = .ok (.iload 8, 2) := by decide +kernel
theorem dX5_setToPress_39 : decode cX5_setToPress 39 = .ok (.iconst 1, 1) := by decide +kernel
theorem dX5_setToPress_40 : decode cX5_setToPress 40 = .ok (.iload_n 2, 1) := by decide +kernel
theorem dX5_setToPress_41 : decode cX5_setToPress 41 = .ok (.invokestatic 55, 3) := by decide +kernel
theorem dX5_setToPress_44 : decode cX5_setToPress 44 = .ok (.ishl, 1) := by decide +kernel
theorem dX5_setToPress_45 : decode cX5_setToPress 45 = .ok (.if_icmp .ge 86, 3) := by decide +kernel
theorem dX5_setToPress_48 : decode cX5_setToPress 48 = .ok (.iload 7, 2) := by decide +kernel
theorem dX5_setToPress_50 : decode cX5_setToPress 50 = .ok (.iload 4, 2) := by decide +kernel
theorem dX5_setToPress_52 : decode cX5_setToPress 52 = .ok (.iand, 1) := by decide +kernel
theorem dX5_setToPress_53 : decode cX5_setToPress 53 = .ok (.ifCond .ne 64, 3) := by decide +kernel
theorem dX5_setToPress_56 : decode cX5_setToPress 56 = .ok (.iload 7, 2) := by decide +kernel
theorem dX5_setToPress_58 : decode cX5_setToPress 58 = .ok (.iload_n 3, 1) := by decide +kernel
theorem dX5_setToPress_59 : decode cX5_setToPress 59 = .ok (.iand, 1) := by decide +kernel
theorem dX5_setToPress_60 : decode cX5_setToPress 60 = .ok (.iload_n 3, 1) := by decide +kernel
theorem dX5_setToPress_61 : decode cX5_setToPress 61 = .ok (.if_icmp .ne 56, 3) := by decide +kernel
theorem dX5_setToPress_64 : decode cX5_setToPress 64 = .ok (.aload_n 0, 1) := by decide +kernel
theorem dX5_setToPress_65 : decode cX5_setToPress 65 = .ok (.aload_n 1, 1) := by decide +kernel
theorem dX5_setToPress_66 : decode cX5_setToPress 66 = .ok (.iload 7, 2) := by decide +kernel
theorem dX5_setToPress_68 : decode cX5_setToPress 68 = .ok (.iload_n 2, 1) := by decide +kernel
theorem dX5_setToPress_69 : decode cX5_setToPress 69 = .ok (.invokevirtual 61, 3) := by decide +kernel
theorem dX5_setToPress_72 : decode cX5_setToPress 72 = .ok (.ifCond .eq 45, 3) := by decide +kernel
theorem dX5_setToPress_75 : decode cX5_setToPress 75 = .ok (.aload_n 1, 1) := by decide +kernel
theorem dX5_setToPress_76 : decode cX5_setToPress 76 = .ok (.iload 7, 2) := by decide +kernel
theorem dX5_setToPress_78 : decode cX5_setToPress 78 = .ok (.invokevirtual 65, 3) := by decide +kernel
theorem dX5_setToPress_81 : decode cX5_setToPress 81 = .ok (.bipush 13, 2) := by decide +kernel
theorem dX5_setToPress_83 : decode cX5_setToPress 83 = .ok (.imul, 1) := by decide +kernel
theorem dX5_setToPress_84 : decode cX5_setToPress 84 = .ok (.iload 7, 2) := by decide +kernel
theorem dX5_setToPress_86 : decode cX5_setToPress 86 = .ok (.invokestatic 55, 3) := by decide +kernel
theorem dX5_setToPress_89 : decode cX5_setToPress 89 = .ok (.iadd, 1) := by decide +kernel
theorem dX5_setToPress_90 : decode cX5_setToPress 90 = .ok (.istore 9, 2) := by decide +kernel
theorem dX5_setToPress_92 : decode cX5_setToPress 92 = .ok (.iload 9, 2) := by decide +kernel
theorem dX5_setToPress_94 : decode cX5_setToPress 94 = .ok (.iload 6, 2) := by decide +kernel
theorem dX5_setToPress_96 : decode cX5_setToPress 96 = .ok (.if_icmp .ge 8, 3) := by decide +kernel
theorem dX5_setToPress_99 : decode cX5_setToPress 99 = .ok (.iload 7, 2) := by decide +kernel
theorem dX5_setToPress_101 : decode cX5_setToPress 101 = .ok (.goto 5, 3) := by decide +kernel
theorem dX5_setToPress_104 : decode cX5_setToPress 104 = .ok (.iload 5, 2) := by decide +kernel
