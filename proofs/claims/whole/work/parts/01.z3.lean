theorem dX11_isLong_16 : decode cX11_isLong 16 = .ok (.isub, 1) := by decide +kernel
theorem dX11_isLong_17 : decode cX11_isLong 17 = .ok (.iload 5, 2) := by decide +kernel
theorem dX11_isLong_19 : decode cX11_isLong 19 = .ok (.if_icmp .eq 5, 3) := by decide +kernel
theorem dX11_isLong_22 : decode cX11_isLong 22 = .ok (.iconst 0, 1) := by decide +kernel
theorem dX11_isLong_23 : decode cX11_isLong 23 = .ok (.ireturn, 1) := by decide +kernel
theorem dX11_isLong_24 : decode cX11_isLong 24 = .ok (.iload 5, 2) := by decide +kernel
theorem dX11_isLong_26 : decode cX11_isLong 26 = .ok (.bipush 7, 2) := by decide +kernel
theorem dX11_isLong_28 : decode cX11_isLong 28 = .ok (.if_icmp .ne 40, 3) := by decide +kernel
theorem dX11_isLong_31 : decode cX11_isLong 31 = .ok (.aload_n 0, 1) := by decide +kernel
theorem dX11_isLong_32 : decode cX11_isLong 32 = .ok (.aload_n 0, 1) := by decide +kernel
theorem dX11_isLong_33 : decode cX11_isLong 33 = .ok (.getfield 102, 3) := by decide +kernel
theorem dX11_isLong_36 : decode cX11_isLong 36 = .ok (.iconst 4, 1) := by decide +kernel
theorem dX11_isLong_37 : decode cX11_isLong 37 = .ok (.iadd, 1) := by decide +kernel
theorem dX11_isLong_38 : decode cX11_isLong 38 = .ok (.invokevirtual 98, 3) := by decide +kernel
theorem dX11_isLong_41 : decode cX11_isLong 41 = .ok (.aload_n 0, 1) := by decide +kernel
theorem dX11_isLong_42 : decode cX11_isLong 42 = .ok (.aload_n 0, 1) := by decide +kernel
theorem dX11_isLong_43 : decode cX11_isLong 43 = .ok (.getfield 102, 3) := by decide +kernel
theorem dX11_isLong_46 : decode cX11_isLong 46 = .ok (.iconst 5, 1) := by decide +kernel
theorem dX11_isLong_47 : decode cX11_isLong 47 = .ok (.iadd, 1) := by decide +kernel
theorem dX11_isLong_48 : decode cX11_isLong 48 = .ok (.invokevirtual 98, 3) := by decide +kernel
theorem dX11_isLong_51 : decode cX11_isLong 51 = .ok (.aload_n 0, 1) := by decide +kernel
theorem dX11_isLong_52 : decode cX11_isLong 52 = .ok (.aload_n 0, 1) := by decide +kernel
theorem dX11_isLong_53 : decode cX11_isLong 53 = .ok (.getfield 102, 3) := by decide +kernel
theorem dX11_isLong_56 : decode cX11_isLong 56 = .ok (.bipush 6, 2) := by decide +kernel
theorem dX11_isLong_58 : decode cX11_isLong 58 = .ok (.iadd, 1) := by decide +kernel
theorem dX11_isLong_59 : decode cX11_isLong 59 = .ok (.invokevirtual 98, 3) := by decide +kernel
theorem dX11_isLong_62 : decode cX11_isLong 62 = .ok (.invokestatic 131, 3) := by decide +kernel
theorem dX11_isLong_65 : decode cX11_isLong 65 = .ok (.goto 48, 3) := by decide +kernel
theorem dX11_isLong_68 : decode cX11_isLong 68 = .ok (.aload_n 0, 1) := by decide +kernel
theorem dX11_isLong_69 : decode cX11_isLong 69 = .ok (.aload_n 0, 1) := by decide +kernel
theorem dX11_isLong_70 : decode cX11_isLong 70 = .ok (.getfield 102, 3) := by decide +kernel
theorem dX11_isLong_73 : decode cX11_isLong 73 = .ok (.iconst 4, 1) := by decide +kernel
theorem dX11_isLong_74 : decode cX11_isLong 74 = .ok (.iadd, 1) := by decide +kernel
theorem dX11_isLong_75 : decode cX11_isLong 75 = .ok (.invokevirtual 98, 3) := by decide +kernel
theorem dX11_isLong_78 : decode cX11_isLong 78 = .ok (.aload_n 0, 1) := by decide +kernel
theorem dX11_isLong_79 : decode cX11_isLong 79 = .ok (.aload_n 0, 1) := by decide +kernel
theorem dX11_isLong_80 : decode cX11_isLong 80 = .ok (.getfield 102, 3) := by decide +kernel
theorem dX11_isLong_83 : decode cX11_isLong 83 = .ok (.iconst 5, 1) := by decide +kernel
theorem dX11_isLong_84 : decode cX11_isLong 84 = .ok (.iadd, 1) := by decide +kernel
theorem dX11_isLong_85 : decode cX11_isLong 85 = .ok (.invokevirtual 98, 3) := by decide +kernel
theorem dX11_isLong_88 : decode cX11_isLong 88 = .ok (.aload_n 0, 1) := by decide +kernel
theorem dX11_isLong_89 : decode cX11_isLong 89 = .ok (.aload_n 0, 1) := by decide +kernel
theorem dX11_isLong_90 : decode cX11_isLong 90 = .ok (.getfield 102, 3) := by decide +kernel
theorem dX11_isLong_93 : decode cX11_isLong 93 = .ok (.bipush 6, 2) := by decide +kernel
theorem dX11_isLong_95 : decode cX11_isLong 95 = .ok (.iadd, 1) := by decide +kernel
theorem dX11_isLong_96 : decode cX11_isLong 96 = .ok (.invokevirtual 98, 3) := by decide +kernel
theorem dX11_isLong_99 : decode cX11_isLong 99 = .ok (.aload_n 0, 1) := by decide +kernel
theorem dX11_isLong_100 : decode cX11_isLong 100 = .ok (.aload_n 0, 1) := by decide +kernel
theorem dX11_isLong_101 : decode cX11_isLong 101 = .ok (.getfield 102, 3) := by decide +kernel
theorem dX11_isLong_104 : decode cX11_isLong 104 = .ok (.bipush 7, 2) := by decide +kernel
theorem dX11_isLong_106 : decode cX11_isLong 106 = .ok (.iadd, 1) := by decide +kernel
theorem dX11_isLong_107 : decode cX11_isLong 107 = .ok (.invokevirtual 98, 3) := by decide +kernel
theorem dX11_isLong_110 : decode cX11_isLong 110 = .ok (.invokestatic 135, 3) := by decide +kernel
theorem dX11_isLong_113 : decode cX11_isLong 113 = .ok (.lstore 6, 2) := by decide +kernel
theorem dX11_isLong_115 : decode cX11_isLong 115 = .ok (.aload_n 0, 1) := by decide +kernel
theorem dX11_isLong_116 : decode cX11_isLong 116 = .ok (.aload_n 0, 1) := by decide +kernel
theorem dX11_isLong_117 : decode cX11_isLong 117 = .ok (.getfield 102, 3) := by decide +kernel
theorem dX11_isLong_120 : decode cX11_isLong 120 = .ok (.invokevirtual 98, 3) := by decide +kernel
theorem dX11_isLong_123 : decode cX11_isLong 123 = .ok (.aload_n 0, 1) := by decide +kernel
theorem dX11_isLong_124 : decode cX11_isLong 124 = .ok (.aload_n 0, 1) := by decide +kernel
theorem dX11_isLong_125 : decode cX11_isLong 125 = .ok (.getfield 102, 3) := by decide +kernel
theorem dX11_isLong_128 : decode cX11_isLong 128 = .ok (.iconst 1, 1) := by decide +kernel
theorem dX11_isLong_129 : decode cX11_isLong 129 = .ok (.iadd, 1) := by decide +kernel
theorem dX11_isLong_130 : decode cX11_isLong 130 = .ok (.invokevirtual 98, 3) := by decide +kernel
theorem dX11_isLong_133 : decode cX11_isLong 133 = .ok (.aload_n 0, 1) := by decide +kernel
theorem dX11_isLong_134 : decode cX11_isLong 134 = .ok (.aload_n 0, 1) := by decide +kernel
theorem dX11_isLong_135 : decode cX11_isLong 135 = .ok (.getfield 102, 3) := by decide +kernel
theorem dX11_isLong_138 : decode cX11_isLong 138 = .ok (.iconst 2, 1) := by decide +kernel
theorem dX11_isLong_139 : decode cX11_isLong 139 = .ok (.iadd, 1) := by decide +kernel
theorem dX11_isLong_140 : decode cX11_isLong 140 = .ok (.invokevirtual 98, 3) := by decide +kernel
theorem dX11_isLong_143 : decode cX11_isLong 143 = .ok (.aload_n 0, 1) := by decide +kernel
theorem dX11_isLong_144 : decode cX11_isLong 144 = .ok (.aload_n 0, 1) := by decide +kernel
theorem dX11_isLong_145 : decode cX11_isLong 145 = .ok (.getfield 102, 3) := by decide +kernel
theorem dX11_isLong_148 : decode cX11_isLong 148 = .ok (.iconst 3, 1) := by decide +kernel
theorem dX11_isLong_149 : decode cX11_isLong 149 = .ok (.iadd, 1) := by decide +kernel
theorem dX11_isLong_150 : decode cX11_isLong 150 = .ok (.invokevirtual 98, 3) := by decide +kernel
theorem dX11_isLong_153 : decode cX11_isLong 153 = .ok (.invokestatic 135, 3) := by decide +kernel
theorem dX11_isLong_156 : decode cX11_isLong 156 = .ok (.lload_n 1, 1) := by decide +kernel
theorem dX11_isLong_157 : decode cX11_isLong 157 = .ok (.lcmp, 1) := by decide +kernel
theorem dX11_isLong_158 : decode cX11_isLong 158 = .ok (.ifCond .ne 14, 3) := by decide +kernel
theorem dX11_isLong_161 : decode cX11_isLong 161 = .ok (.lload 6, 2) := by decide +kernel
theorem dX11_isLong_163 : decode cX11_isLong 163 = .ok (.lload_n 3, 1) := by decide +kernel
theorem dX11_isLong_164 : decode cX11_isLong 164 = .ok (.lcmp, 1) := by decide +kernel
theorem dX11_isLong_165 : decode cX11_isLong 165 = .ok (.ifCond .ne 7, 3) := by decide +kernel
theorem dX11_isLong_168 : decode cX11_isLong 168 = .ok (.iconst 1, 1) := by decide +kernel
theorem dX11_isLong_169 : decode cX11_isLong 169 = .ok (.goto 4, 3) := by decide +kernel
theorem dX11_isLong_172 : decode cX11_isLong 172 = .ok (.iconst 0, 1) := by decide +kernel
theorem dX11_isLong_173 : decode cX11_isLong 173 = .ok (.ireturn, 1) := by decide +kernel
theorem dX11_nameOf_0 : decode cX11_nameOf 0 = .ok (.aload_n 0, 1) := by decide +kernel
theorem dX11_nameOf_1 : decode cX11_nameOf 1 = .ok (.getfield 105, 3) := by decide +kernel
theorem dX11_nameOf_4 : decode cX11_nameOf 4 = .ok (.iconst 2, 1) := by decide +kernel
theorem dX11_nameOf_5 : decode cX11_nameOf 5 = .ok (.if_icmp .eq 5, 3) := by decide +kernel
theorem dX11_nameOf_8 : decode cX11_nameOf 8 = .ok (.iconst (-1), 1) := by decide +kernel
theorem dX11_nameOf_9 : decode cX11_nameOf 9 = .ok (.ireturn, 1) := by decide +kernel
theorem dX11_nameOf_10 : decode cX11_nameOf 10 = .ok (.aload_n 0, 1) := by decide +kernel
theorem dX11_nameOf_11 : decode cX11_nameOf 11 = .ok (.getfield 118, 3) := by decide +kernel
theorem dX11_nameOf_14 : decode cX11_nameOf 14 = .ok (.bipush 104, 2) := by decide +kernel
theorem dX11_nameOf_16 : decode cX11_nameOf 16 = .ok (.bipush 111, 2) := by decide +kernel
theorem dX11_nameOf_18 : decode cX11_nameOf 18 = .ok (.bipush 117, 2) := by decide +kernel
theorem dX11_nameOf_20 : decode cX11_nameOf 20 = .ok (.bipush 114, 2) := by decide +kernel
theorem dX11_nameOf_22 : decode cX11_nameOf 22 = .ok (.invokestatic 135, 3) := by decide +kernel
theorem dX11_nameOf_25 : decode cX11_nameOf 25 = .ok (.lcmp, 1) := by decide +kernel
theorem dX11_nameOf_26 : decode cX11_nameOf 26 = .ok (.ifCond .ne 5, 3) := by decide +kernel
theorem dX11_nameOf_29 : decode cX11_nameOf 29 = .ok (.iconst 0, 1) := by decide +kernel
theorem dX11_nameOf_30 : decode cX11_nameOf 30 = .ok (.ireturn, 1) := by decide +kernel
theorem dX11_nameOf_31 : decode cX11_nameOf 31 = .ok (.aload_n 0, 1) := by decide +kernel
theorem dX11_nameOf_32 : decode cX11_nameOf 32 = .ok (.getfield 118, 3) := by decide +kernel
theorem dX11_nameOf_35 : decode cX11_nameOf 35 = .ok (.bipush 104, 2) := by decide +kernel
theorem dX11_nameOf_37 : decode cX11_nameOf 37 = .ok (.bipush 101, 2) := by decide +kernel
theorem dX11_nameOf_39 : decode cX11_nameOf 39 = .ok (.bipush 97, 2) := by decide +kernel
theorem dX11_nameOf_41 : decode cX11_nameOf 41 = .ok (.bipush 116, 2) := by decide +kernel
theorem dX11_nameOf_43 : decode cX11_nameOf 43 = .ok (.invokestatic 135, 3) := by decide +kernel
theorem dX11_nameOf_46 : decode cX11_nameOf 46 = .ok (.lcmp, 1) := by decide +kernel
theorem dX11_nameOf_47 : decode cX11_nameOf 47 = .ok (.ifCond .ne 5, 3) := by decide +kernel
theorem dX11_nameOf_50 : decode cX11_nameOf 50 = .ok (.iconst 1, 1) := by decide +kernel
theorem dX11_nameOf_51 : decode cX11_nameOf 51 = .ok (.ireturn, 1) := by decide +kernel
theorem dX11_nameOf_52 : decode cX11_nameOf 52 = .ok (.aload_n 0, 1) := by decide +kernel
theorem dX11_nameOf_53 : decode cX11_nameOf 53 = .ok (.getfield 118, 3) := by decide +kernel
theorem dX11_nameOf_56 : decode cX11_nameOf 56 = .ok (.bipush 119, 2) := by decide +kernel
theorem dX11_nameOf_58 : decode cX11_nameOf 58 = .ok (.bipush 104, 2) := by decide +kernel
theorem dX11_nameOf_60 : decode cX11_nameOf 60 = .ok (.bipush 111, 2) := by decide +kernel
theorem dX11_nameOf_62 : decode cX11_nameOf 62 = .ok (.invokestatic 131, 3) := by decide +kernel
theorem dX11_nameOf_65 : decode cX11_nameOf 65 = .ok (.lcmp, 1) := by decide +kernel
theorem dX11_nameOf_66 : decode cX11_nameOf 66 = .ok (.ifCond .ne 5, 3) := by decide +kernel
theorem dX11_nameOf_69 : decode cX11_nameOf 69 = .ok (.iconst 2, 1) := by decide +kernel
theorem dX11_nameOf_70 : decode cX11_nameOf 70 = .ok (.ireturn, 1) := by decide +kernel
theorem dX11_nameOf_71 : decode cX11_nameOf 71 = .ok (.aload_n 0, 1) := by decide +kernel
theorem dX11_nameOf_72 : decode cX11_nameOf 72 = .ok (.getfield 118, 3) := by decide +kernel
theorem dX11_nameOf_75 : decode cX11_nameOf 75 = .ok (.bipush 115, 2) := by decide +kernel
theorem dX11_nameOf_77 : decode cX11_nameOf 77 = .ok (.bipush 107, 2) := by decide +kernel
theorem dX11_nameOf_79 : decode cX11_nameOf 79 = .ok (.bipush 105, 2) := by decide +kernel
theorem dX11_nameOf_81 : decode cX11_nameOf 81 = .ok (.bipush 110, 2) := by decide +kernel
theorem dX11_nameOf_83 : decode cX11_nameOf 83 = .ok (.invokestatic 135, 3) := by decide +kernel
theorem dX11_nameOf_86 : decode cX11_nameOf 86 = .ok (.lcmp, 1) := by decide +kernel
theorem dX11_nameOf_87 : decode cX11_nameOf 87 = .ok (.ifCond .ne 5, 3) := by decide +kernel
theorem dX11_nameOf_90 : decode cX11_nameOf 90 = .ok (.iconst 3, 1) := by decide +kernel
theorem dX11_nameOf_91 : decode cX11_nameOf 91 = .ok (.ireturn, 1) := by decide +kernel
theorem dX11_nameOf_92 : decode cX11_nameOf 92 = .ok (.aload_n 0, 1) := by decide +kernel
theorem dX11_nameOf_93 : decode cX11_nameOf 93 = .ok (.getfield 118, 3) := by decide +kernel
theorem dX11_nameOf_96 : decode cX11_nameOf 96 = .ok (.bipush 121, 2) := by decide +kernel
theorem dX11_nameOf_98 : decode cX11_nameOf 98 = .ok (.bipush 101, 2) := by decide +kernel
theorem dX11_nameOf_100 : decode cX11_nameOf 100 = .ok (.bipush 97, 2) := by decide +kernel
theorem dX11_nameOf_102 : decode cX11_nameOf 102 = .ok (.bipush 114, 2) := by decide +kernel
theorem dX11_nameOf_104 : decode cX11_nameOf 104 = .ok (.invokestatic 135, 3) := by decide +kernel
theorem dX11_nameOf_107 : decode cX11_nameOf 107 = .ok (.lcmp, 1) := by decide +kernel
theorem dX11_nameOf_108 : decode cX11_nameOf 108 = .ok (.ifCond .ne 5, 3) := by decide +kernel
theorem dX11_nameOf_111 : decode cX11_nameOf 111 = .ok (.iconst 4, 1) := by decide +kernel
theorem dX11_nameOf_112 : decode cX11_nameOf 112 = .ok (.ireturn, 1) := by decide +kernel
theorem dX11_nameOf_113 : decode cX11_nameOf 113 = .ok (.aload_n 0, 1) := by decide +kernel
theorem dX11_nameOf_114 : decode cX11_nameOf 114 = .ok (.getfield 118, 3) := by decide +kernel
theorem dX11_nameOf_117 : decode cX11_nameOf 117 = .ok (.bipush 100, 2) := by decide +kernel
theorem dX11_nameOf_119 : decode cX11_nameOf 119 = .ok (.bipush 101, 2) := by decide +kernel
theorem dX11_nameOf_121 : decode cX11_nameOf 121 = .ok (.bipush 112, 2) := by decide +kernel
theorem dX11_nameOf_123 : decode cX11_nameOf 123 = .ok (.bipush 116, 2) := by decide +kernel
theorem dX11_nameOf_125 : decode cX11_nameOf 125 = .ok (.bipush 104, 2) := by decide +kernel
theorem dX11_nameOf_127 : decode cX11_nameOf 127 = .ok (.invokestatic 139, 3) := by decide +kernel
theorem dX11_nameOf_130 : decode cX11_nameOf 130 = .ok (.lcmp, 1) := by decide +kernel
theorem dX11_nameOf_131 : decode cX11_nameOf 131 = .ok (.ifCond .ne 5, 3) := by decide +kernel
theorem dX11_nameOf_134 : decode cX11_nameOf 134 = .ok (.iconst 5, 1) := by decide +kernel
theorem dX11_nameOf_135 : decode cX11_nameOf 135 = .ok (.ireturn, 1) := by decide +kernel
theorem dX11_nameOf_136 : decode cX11_nameOf 136 = .ok (.aload_n 0, 1) := by decide +kernel
theorem dX11_nameOf_137 : decode cX11_nameOf 137 = .ok (.getfield 118, 3) := by decide +kernel
theorem dX11_nameOf_140 : decode cX11_nameOf 140 = .ok (.bipush 119, 2) := by decide +kernel
theorem dX11_nameOf_142 : decode cX11_nameOf 142 = .ok (.bipush 111, 2) := by decide +kernel
theorem dX11_nameOf_144 : decode cX11_nameOf 144 = .ok (.bipush 114, 2) := by decide +kernel
theorem dX11_nameOf_146 : decode cX11_nameOf 146 = .ok (.bipush 116, 2) := by decide +kernel
theorem dX11_nameOf_148 : decode cX11_nameOf 148 = .ok (.bipush 104, 2) := by decide +kernel
theorem dX11_nameOf_150 : decode cX11_nameOf 150 = .ok (.invokestatic 139, 3) := by decide +kernel
theorem dX11_nameOf_153 : decode cX11_nameOf 153 = .ok (.lcmp, 1) := by decide +kernel
theorem dX11_nameOf_154 : decode cX11_nameOf 154 = .ok (.ifCond .ne 6, 3) := by decide +kernel
theorem dX11_nameOf_157 : decode cX11_nameOf 157 = .ok (.bipush 6, 2) := by decide +kernel
theorem dX11_nameOf_159 : decode cX11_nameOf 159 = .ok (.ireturn, 1) := by decide +kernel
theorem dX11_nameOf_160 : decode cX11_nameOf 160 = .ok (.aload_n 0, 1) := by decide +kernel
theorem dX11_nameOf_161 : decode cX11_nameOf 161 = .ok (.getfield 118, 3) := by decide +kernel
theorem dX11_nameOf_164 : decode cX11_nameOf 164 = .ok (.bipush 99, 2) := by decide +kernel
theorem dX11_nameOf_166 : decode cX11_nameOf 166 = .ok (.bipush 111, 2) := by decide +kernel
theorem dX11_nameOf_168 : decode cX11_nameOf 168 = .ok (.bipush 105, 2) := by decide +kernel
theorem dX11_nameOf_170 : decode cX11_nameOf 170 = .ok (.bipush 110, 2) := by decide +kernel
theorem dX11_nameOf_172 : decode cX11_nameOf 172 = .ok (.bipush 115, 2) := by decide +kernel
theorem dX11_nameOf_174 : decode cX11_nameOf 174 = .ok (.invokestatic 139, 3) := by decide +kernel
theorem dX11_nameOf_177 : decode cX11_nameOf 177 = .ok (.lcmp, 1) := by decide +kernel
theorem dX11_nameOf_178 : decode cX11_nameOf 178 = .ok (.ifCond .ne 8, 3) := by decide +kernel
theorem dX11_nameOf_181 : decode cX11_nameOf 181 = .ok (.bipush 7, 2) := by decide +kernel
theorem dX11_nameOf_183 : decode cX11_nameOf 183 = .ok (.goto 28, 3) := by decide +kernel
theorem dX11_nameOf_186 : decode cX11_nameOf 186 = .ok (.aload_n 0, 1) := by decide +kernel
theorem dX11_nameOf_187 : decode cX11_nameOf 187 = .ok (.getfield 118, 3) := by decide +kernel
theorem dX11_nameOf_190 : decode cX11_nameOf 190 = .ok (.bipush 116, 2) := by decide +kernel
theorem dX11_nameOf_192 : decode cX11_nameOf 192 = .ok (.bipush 105, 2) := by decide +kernel
theorem dX11_nameOf_194 : decode cX11_nameOf 194 = .ok (.bipush 101, 2) := by decide +kernel
theorem dX11_nameOf_196 : decode cX11_nameOf 196 = .ok (.bipush 115, 2) := by decide +kernel
theorem dX11_nameOf_198 : decode cX11_nameOf 198 = .ok (.invokestatic 135, 3) := by decide +kernel
theorem dX11_nameOf_201 : decode cX11_nameOf 201 = .ok (.lcmp, 1) := by decide +kernel
theorem dX11_nameOf_202 : decode cX11_nameOf 202 = .ok (.ifCond .ne 8, 3) := by decide +kernel
theorem dX11_nameOf_205 : decode cX11_nameOf 205 = .ok (.bipush 8, 2) := by decide +kernel
theorem dX11_nameOf_207 : decode cX11_nameOf 207 = .ok (.goto 4, 3) := by decide +kernel
theorem dX11_nameOf_210 : decode cX11_nameOf 210 = .ok (.iconst (-1), 1) := by decide +kernel
theorem dX11_nameOf_211 : decode cX11_nameOf 211 = .ok (.ireturn, 1) := by decide +kernel
theorem dX11_isOf_0 : decode cX11_isOf 0 = .ok (.iload_n 1, 1) := by decide +kernel
theorem dX11_isOf_1 : decode cX11_isOf 1 = .ok (.bipush 7, 2) := by decide +kernel
theorem dX11_isOf_3 : decode cX11_isOf 3 = .ok (.if_icmp .lt 27, 3) := by decide +kernel
theorem dX11_isOf_6 : decode cX11_isOf 6 = .ok (.iload_n 1, 1) := by decide +kernel
theorem dX11_isOf_7 : decode cX11_isOf 7 = .ok (.bipush 7, 2) := by decide +kernel
theorem dX11_isOf_9 : decode cX11_isOf 9 = .ok (.if_icmp .ne 14, 3) := by decide +kernel
theorem dX11_isOf_12 : decode cX11_isOf 12 = .ok (.aload_n 0, 1) := by decide +kernel
theorem dX11_isOf_13 : decode cX11_isOf 13 = .ok (.getfield 149, 3) := by decide +kernel
theorem dX11_isOf_16 : decode cX11_isOf 16 = .ok (.iconst 2, 1) := by decide +kernel
theorem dX11_isOf_17 : decode cX11_isOf 17 = .ok (.if_icmp .ne 17, 3) := by decide +kernel
theorem dX11_isOf_20 : decode cX11_isOf 20 = .ok (.goto 10, 3) := by decide +kernel
theorem dX11_isOf_23 : decode cX11_isOf 23 = .ok (.aload_n 0, 1) := by decide +kernel
theorem dX11_isOf_24 : decode cX11_isOf 24 = .ok (.getfield 149, 3) := by decide +kernel
theorem dX11_isOf_27 : decode cX11_isOf 27 = .ok (.ifCond .eq 7, 3) := by decide +kernel
theorem dX11_isOf_30 : decode cX11_isOf 30 = .ok (.iconst 1, 1) := by decide +kernel
theorem dX11_isOf_31 : decode cX11_isOf 31 = .ok (.goto 4, 3) := by decide +kernel
theorem dX11_isOf_34 : decode cX11_isOf 34 = .ok (.iconst 0, 1) := by decide +kernel
theorem dX11_isOf_35 : decode cX11_isOf 35 = .ok (.ireturn, 1) := by decide +kernel
theorem dX11_rank_0 : decode cX11_rank 0 = .ok (.iload_n 0, 1) := by decide +kernel
theorem dX11_rank_1 : decode cX11_rank 1 = .ok (.bipush 40, 2) := by decide +kernel
theorem dX11_rank_3 : decode cX11_rank 3 = .ok (.if_icmp .lt 7, 3) := by decide +kernel
theorem dX11_rank_6 : decode cX11_rank 6 = .ok (.iconst 0, 1) := by decide +kernel
theorem dX11_rank_7 : decode cX11_rank 7 = .ok (.goto 75, 3) := by decide +kernel
theorem dX11_rank_10 : decode cX11_rank 10 = .ok (.iload_n 0, 1) := by decide +kernel
theorem dX11_rank_11 : decode cX11_rank 11 = .ok (.bipush 22, 2) := by decide +kernel
theorem dX11_rank_13 : decode cX11_rank 13 = .ok (.if_icmp .ne 7, 3) := by decide +kernel
theorem dX11_rank_16 : decode cX11_rank 16 = .ok (.iconst 1, 1) := by decide +kernel
theorem dX11_rank_17 : decode cX11_rank 17 = .ok (.goto 65, 3) := by decide +kernel
theorem dX11_rank_20 : decode cX11_rank 20 = .ok (.iload_n 0, 1) := by decide +kernel
theorem dX11_rank_21 : decode cX11_rank 21 = .ok (.bipush 21, 2) := by decide +kernel
theorem dX11_rank_23 : decode cX11_rank 23 = .ok (.if_icmp .ne 7, 3) := by decide +kernel
theorem dX11_rank_26 : decode cX11_rank 26 = .ok (.iconst 2, 1) := by decide +kernel
theorem dX11_rank_27 : decode cX11_rank 27 = .ok (.goto 55, 3) := by decide +kernel
theorem dX11_rank_30 : decode cX11_rank 30 = .ok (.iload_n 0, 1) := by decide +kernel
theorem dX11_rank_31 : decode cX11_rank 31 = .ok (.bipush 20, 2) := by decide +kernel
theorem dX11_rank_33 : decode cX11_rank 33 = .ok (.if_icmp .ne 7, 3) := by decide +kernel
theorem dX11_rank_36 : decode cX11_rank 36 = .ok (.iconst 3, 1) := by decide +kernel
theorem dX11_rank_37 : decode cX11_rank 37 = .ok (.goto 45, 3) := by decide +kernel
theorem dX11_rank_40 : decode cX11_rank 40 = .ok (.iload_n 0, 1) := by decide +kernel
theorem dX11_rank_41 : decode cX11_rank 41 = .ok (.bipush 10, 2) := by decide +kernel
theorem dX11_rank_43 : decode cX11_rank 43 = .ok (.if_icmp .lt 7, 3) := by decide +kernel
theorem dX11_rank_46 : decode cX11_rank 46 = .ok (.iconst 4, 1) := by decide +kernel
theorem dX11_rank_47 : decode cX11_rank 47 = .ok (.goto 35, 3) := by decide +kernel
theorem dX11_rank_50 : decode cX11_rank 50 = .ok (.iload_n 0, 1) := by decide +kernel
theorem dX11_rank_51 : decode cX11_rank 51 = .ok (.iconst 5, 1) := by decide +kernel
theorem dX11_rank_52 : decode cX11_rank 52 = .ok (.if_icmp .eq 13, 3) := by decide +kernel
theorem dX11_rank_55 : decode cX11_rank 55 = .ok (.iload_n 0, 1) := by decide +kernel
theorem dX11_rank_56 : decode cX11_rank 56 = .ok (.iconst 2, 1) := by decide +kernel
theorem dX11_rank_57 : decode cX11_rank 57 = .ok (.if_icmp .eq 8, 3) := by decide +kernel
theorem dX11_rank_60 : decode cX11_rank 60 = .ok (.iload_n 0, 1) := by decide +kernel
theorem dX11_rank_61 : decode cX11_rank 61 = .ok (.iconst 3, 1) := by decide +kernel
theorem dX11_rank_62 : decode cX11_rank 62 = .ok (.if_icmp .ne 8, 3) := by decide +kernel
theorem dX11_rank_65 : decode cX11_rank 65 = .ok (.bipush 7, 2) := by decide +kernel
theorem dX11_rank_67 : decode cX11_rank 67 = .ok (.goto 15, 3) := by decide +kernel
theorem dX11_rank_70 : decode cX11_rank 70 = .ok (.iload_n 0, 1) := by decide +kernel
theorem dX11_rank_71 : decode cX11_rank 71 = .ok (.bipush 8, 2) := by decide +kernel
theorem dX11_rank_73 : decode cX11_rank 73 = .ok (.if_icmp .lt 8, 3) := by decide +kernel
theorem dX11_rank_76 : decode cX11_rank 76 = .ok (.bipush 6, 2) := by decide +kernel
theorem dX11_rank_78 : decode cX11_rank 78 = .ok (.goto 4, 3) := by decide +kernel
theorem dX11_rank_81 : decode cX11_rank 81 = .ok (.iconst 5, 1) := by decide +kernel
theorem dX11_rank_82 : decode cX11_rank 82 = .ok (.ireturn, 1) := by decide +kernel
theorem dX11_settle_0 : decode cX11_settle 0 = .ok (.aload_n 0, 1) := by decide +kernel
theorem dX11_settle_1 : decode cX11_settle 1 = .ok (.getfield 152, 3) := by decide +kernel
theorem dX11_settle_4 : decode cX11_settle 4 = .ok (.ifCond .le 89, 3) := by decide +kernel
theorem dX11_settle_7 : decode cX11_settle 7 = .ok (.aload_n 0, 1) := by decide +kernel
theorem dX11_settle_8 : decode cX11_settle 8 = .ok (.getfield 29, 3) := by decide +kernel
theorem dX11_settle_11 : decode cX11_settle 11 = .ok (.aload_n 0, 1) := by decide +kernel
theorem dX11_settle_12 : decode cX11_settle 12 = .ok (.getfield 152, 3) := by decide +kernel
theorem dX11_settle_15 : decode cX11_settle 15 = .ok (.iconst 1, 1) := by decide +kernel
theorem dX11_settle_16 : decode cX11_settle 16 = .ok (.isub, 1) := by decide +kernel
theorem dX11_settle_17 : decode cX11_settle 17 = .ok (.iaload, 1) := by decide +kernel
theorem dX11_settle_18 : decode cX11_settle 18 = .ok (.invokestatic 155, 3) := by decide +kernel
theorem dX11_settle_21 : decode cX11_settle 21 = .ok (.iload_n 1, 1) := by decide +kernel
theorem dX11_settle_22 : decode cX11_settle 22 = .ok (.if_icmp .lt 71, 3) := by decide +kernel
theorem dX11_settle_25 : decode cX11_settle 25 = .ok (.aload_n 0, 1) := by decide +kernel
theorem dX11_settle_26 : decode cX11_settle 26 = .ok (.dup, 1) := by decide +kernel
theorem dX11_settle_27 : decode cX11_settle 27 = .ok (.getfield 152, 3) := by decide +kernel
theorem dX11_settle_30 : decode cX11_settle 30 = .ok (.iconst 1, 1) := by decide +kernel
theorem dX11_settle_31 : decode cX11_settle 31 = .ok (.isub, 1) := by decide +kernel
theorem dX11_settle_32 : decode cX11_settle 32 = .ok (.putfield 152, 3) := by decide +kernel
theorem dX11_settle_35 : decode cX11_settle 35 = .ok (.aload_n 0, 1) := by decide +kernel
theorem dX11_settle_36 : decode cX11_settle 36 = .ok (.aload_n 0, 1) := by decide +kernel
theorem dX11_settle_37 : decode cX11_settle 37 = .ok (.getfield 29, 3) := by decide +kernel
theorem dX11_settle_40 : decode cX11_settle 40 = .ok (.aload_n 0, 1) := by decide +kernel
theorem dX11_settle_41 : decode cX11_settle 41 = .ok (.getfield 152, 3) := by decide +kernel
theorem dX11_settle_44 : decode cX11_settle 44 = .ok (.iaload, 1) := by decide +kernel
theorem dX11_settle_45 : decode cX11_settle 45 = .ok (.iconst 0, 1) := by decide +kernel
theorem dX11_settle_46 : decode cX11_settle 46 = .ok (.invokevirtual 158, 3) := by decide +kernel
theorem dX11_settle_49 : decode cX11_settle 49 = .ok (.aload_n 0, 1) := by decide +kernel
theorem dX11_settle_50 : decode cX11_settle 50 = .ok (.getfield 29, 3) := by decide +kernel
theorem dX11_settle_53 : decode cX11_settle 53 = .ok (.aload_n 0, 1) := by decide +kernel
theorem dX11_settle_54 : decode cX11_settle 54 = .ok (.getfield 152, 3) := by decide +kernel
theorem dX11_settle_57 : decode cX11_settle 57 = .ok (.iaload, 1) := by decide +kernel
theorem dX11_settle_58 : decode cX11_settle 58 = .ok (.invokestatic 155, 3) := by decide +kernel
theorem dX11_settle_61 : decode cX11_settle 61 = .ok (.bipush 7, 2) := by decide +kernel
theorem dX11_settle_63 : decode cX11_settle 63 = .ok (.if_icmp .eq 17, 3) := by decide +kernel
theorem dX11_settle_66 : decode cX11_settle 66 = .ok (.aload_n 0, 1) := by decide +kernel
theorem dX11_settle_67 : decode cX11_settle 67 = .ok (.getfield 29, 3) := by decide +kernel
theorem dX11_settle_70 : decode cX11_settle 70 = .ok (.aload_n 0, 1) := by decide +kernel
theorem dX11_settle_71 : decode cX11_settle 71 = .ok (.getfield 152, 3) := by decide +kernel
theorem dX11_settle_74 : decode cX11_settle 74 = .ok (.iaload, 1) := by decide +kernel
theorem dX11_settle_75 : decode cX11_settle 75 = .ok (.bipush 20, 2) := by decide +kernel
theorem dX11_settle_77 : decode cX11_settle 77 = .ok (.if_icmp .ne (-77), 3) := by decide +kernel
theorem dX11_settle_80 : decode cX11_settle 80 = .ok (.aload_n 0, 1) := by decide +kernel
theorem dX11_settle_81 : decode cX11_settle 81 = .ok (.dup, 1) := by decide +kernel
theorem dX11_settle_82 : decode cX11_settle 82 = .ok (.getfield 162, 3) := by decide +kernel
theorem dX11_settle_85 : decode cX11_settle 85 = .ok (.iconst 1, 1) := by decide +kernel
theorem dX11_settle_86 : decode cX11_settle 86 = .ok (.isub, 1) := by decide +kernel
theorem dX11_settle_87 : decode cX11_settle 87 = .ok (.putfield 162, 3) := by decide +kernel
theorem dX11_settle_90 : decode cX11_settle 90 = .ok (.goto (-90), 3) := by decide +kernel
theorem dX11_settle_93 : decode cX11_settle 93 = .ok (.return_, 1) := by decide +kernel
theorem dX11_openAt_0 : decode cX11_openAt 0 = .ok (.aload_n 0, 1) := by decide +kernel
theorem dX11_openAt_1 : decode cX11_openAt 1 = .ok (.getfield 152, 3) := by decide +kernel
theorem dX11_openAt_4 : decode cX11_openAt 4 = .ok (.iconst 1, 1) := by decide +kernel
theorem dX11_openAt_5 : decode cX11_openAt 5 = .ok (.isub, 1) := by decide +kernel
theorem dX11_openAt_6 : decode cX11_openAt 6 = .ok (.istore_n 1, 1) := by decide +kernel
theorem dX11_openAt_7 : decode cX11_openAt 7 = .ok (.iload_n 1, 1) := by decide +kernel
theorem dX11_openAt_8 : decode cX11_openAt 8 = .ok (.ifCond .lt 20, 3) := by decide +kernel
theorem dX11_openAt_11 : decode cX11_openAt 11 = .ok (.aload_n 0, 1) := by decide +kernel
theorem dX11_openAt_12 : decode cX11_openAt 12 = .ok (.getfield 29, 3) := by decide +kernel
theorem dX11_openAt_15 : decode cX11_openAt 15 = .ok (.iload_n 1, 1) := by decide +kernel
theorem dX11_openAt_16 : decode cX11_openAt 16 = .ok (.iaload, 1) := by decide +kernel
theorem dX11_openAt_17 : decode cX11_openAt 17 = .ok (.bipush 40, 2) := by decide +kernel
theorem dX11_openAt_19 : decode cX11_openAt 19 = .ok (.if_icmp .ge 9, 3) := by decide +kernel
theorem dX11_openAt_22 : decode cX11_openAt 22 = .ok (.iinc 1 (-1), 3) := by decide +kernel
theorem dX11_openAt_25 : decode cX11_openAt 25 = .ok (.goto (-18), 3) := by decide +kernel
theorem dX11_openAt_28 : decode cX11_openAt 28 = .ok (.iload_n 1, 1) := by decide +kernel
theorem dX11_openAt_29 : decode cX11_openAt 29 = .ok (.ireturn, 1) := by decide +kernel
theorem dX11_openNow_0 : decode cX11_openNow 0 = .ok (.aload_n 0, 1) := by decide +kernel
theorem dX11_openNow_1 : decode cX11_openNow 1 = .ok (.invokevirtual 165, 3) := by decide +kernel
theorem dX11_openNow_4 : decode cX11_openNow 4 = .ok (.ifCond .ge 7, 3) := by decide +kernel
theorem dX11_openNow_7 : decode cX11_openNow 7 = .ok (.iconst (-1), 1) := by decide +kernel
theorem dX11_openNow_8 : decode cX11_openNow 8 = .ok (.goto 12, 3) := by decide +kernel
theorem dX11_openNow_11 : decode cX11_openNow 11 = .ok (.aload_n 0, 1) := by decide +kernel
theorem dX11_openNow_12 : decode cX11_openNow 12 = .ok (.getfield 29, 3) := by decide +kernel
theorem dX11_openNow_15 : decode cX11_openNow 15 = .ok (.aload_n 0, 1) := by decide +kernel
theorem dX11_openNow_16 : decode cX11_openNow 16 = .ok (.invokevirtual 165, 3) := by decide +kernel
theorem dX11_openNow_19 : decode cX11_openNow 19 = .ok (.iaload, 1) := by decide +kernel
theorem dX11_openNow_20 : decode cX11_openNow 20 = .ok (.ireturn, 1) := by decide +kernel
theorem dX11_isCompared_0 : decode cX11_isCompared 0 = .ok (.aload_n 0, 1) := by decide +kernel
theorem dX11_isCompared_1 : decode cX11_isCompared 1 = .ok (.getfield 152, 3) := by decide +kernel
theorem dX11_isCompared_4 : decode cX11_isCompared 4 = .ok (.iconst 1, 1) := by decide +kernel
theorem dX11_isCompared_5 : decode cX11_isCompared 5 = .ok (.isub, 1) := by decide +kernel
theorem dX11_isCompared_6 : decode cX11_isCompared 6 = .ok (.istore_n 1, 1) := by decide +kernel
theorem dX11_isCompared_7 : decode cX11_isCompared 7 = .ok (.iload_n 1, 1) := by decide +kernel
theorem dX11_isCompared_8 : decode cX11_isCompared 8 = .ok (.ifCond .lt 22, 3) := by decide +kernel
theorem dX11_isCompared_11 : decode cX11_isCompared 11 = .ok (.aload_n 0, 1) := by decide +kernel
theorem dX11_isCompared_12 : decode cX11_isCompared 12 = .ok (.getfield 29, 3) := by decide +kernel
theorem dX11_isCompared_15 : decode cX11_isCompared 15 = .ok (.iload_n 1, 1) := by decide +kernel
theorem dX11_isCompared_16 : decode cX11_isCompared 16 = .ok (.iaload, 1) := by decide +kernel
theorem dX11_isCompared_17 : decode cX11_isCompared 17 = .ok (.invokestatic 155, 3) := by decide +kernel
theorem dX11_isCompared_20 : decode cX11_isCompared 20 = .ok (.iconst 4, 1) := by decide +kernel
theorem dX11_isCompared_21 : decode cX11_isCompared 21 = .ok (.if_icmp .le 9, 3) := by decide +kernel
theorem dX11_isCompared_24 : decode cX11_isCompared 24 = .ok (.iinc 1 (-1), 3) := by decide +kernel
theorem dX11_isCompared_27 : decode cX11_isCompared 27 = .ok (.goto (-20), 3) := by decide +kernel
theorem dX11_isCompared_30 : decode cX11_isCompared 30 = .ok (.iload_n 1, 1) := by decide +kernel
theorem dX11_isCompared_31 : decode cX11_isCompared 31 = .ok (.ifCond .lt 20, 3) := by decide +kernel
theorem dX11_isCompared_34 : decode cX11_isCompared 34 = .ok (.aload_n 0, 1) := by decide +kernel
theorem dX11_isCompared_35 : decode cX11_isCompared 35 = .ok (.getfield 29, 3) := by decide +kernel
theorem dX11_isCompared_38 : decode cX11_isCompared 38 = .ok (.iload_n 1, 1) := by decide +kernel
theorem dX11_isCompared_39 : decode cX11_isCompared 39 = .ok (.iaload, 1) := by decide +kernel
theorem dX11_isCompared_40 : decode cX11_isCompared 40 = .ok (.invokestatic 155, 3) := by decide +kernel
theorem dX11_isCompared_43 : decode cX11_isCompared 43 = .ok (.iconst 4, 1) := by decide +kernel
theorem dX11_isCompared_44 : decode cX11_isCompared 44 = .ok (.if_icmp .ne 7, 3) := by decide +kernel
theorem dX11_isCompared_47 : decode cX11_isCompared 47 = .ok (.iconst 1, 1) := by decide +kernel
theorem dX11_isCompared_48 : decode cX11_isCompared 48 = .ok (.goto 4, 3) := by decide +kernel
theorem dX11_isCompared_51 : decode cX11_isCompared 51 = .ok (.iconst 0, 1) := by decide +kernel
theorem dX11_isCompared_52 : decode cX11_isCompared 52 = .ok (.ireturn, 1) := by decide +kernel
theorem dX11_isAskAhead_0 : decode cX11_isAskAhead 0 = .ok (.aload_n 0, 1) := by decide +kernel
theorem dX11_isAskAhead_1 : decode cX11_isAskAhead 1 = .ok (.invokevirtual 169, 3) := by decide +kernel
theorem dX11_isAskAhead_4 : decode cX11_isAskAhead 4 = .ok (.bipush 41, 2) := by decide +kernel
theorem dX11_isAskAhead_6 : decode cX11_isAskAhead 6 = .ok (.if_icmp .ne 45, 3) := by decide +kernel
theorem dX11_isAskAhead_9 : decode cX11_isAskAhead 9 = .ok (.aload_n 0, 1) := by decide +kernel
theorem dX11_isAskAhead_10 : decode cX11_isAskAhead 10 = .ok (.getfield 29, 3) := by decide +kernel
theorem dX11_isAskAhead_13 : decode cX11_isAskAhead 13 = .ok (.aload_n 0, 1) := by decide +kernel
theorem dX11_isAskAhead_14 : decode cX11_isAskAhead 14 = .ok (.getfield 152, 3) := by decide +kernel
theorem dX11_isAskAhead_17 : decode cX11_isAskAhead 17 = .ok (.iconst 1, 1) := by decide +kernel
theorem dX11_isAskAhead_18 : decode cX11_isAskAhead 18 = .ok (.isub, 1) := by decide +kernel
theorem dX11_isAskAhead_19 : decode cX11_isAskAhead 19 = .ok (.iaload, 1) := by decide +kernel
theorem dX11_isAskAhead_20 : decode cX11_isAskAhead 20 = .ok (.bipush 40, 2) := by decide +kernel
theorem dX11_isAskAhead_22 : decode cX11_isAskAhead 22 = .ok (.if_icmp .ge 25, 3) := by decide +kernel
theorem dX11_isAskAhead_25 : decode cX11_isAskAhead 25 = .ok (.aload_n 0, 1) := by decide +kernel
theorem dX11_isAskAhead_26 : decode cX11_isAskAhead 26 = .ok (.getfield 29, 3) := by decide +kernel
theorem dX11_isAskAhead_29 : decode cX11_isAskAhead 29 = .ok (.aload_n 0, 1) := by decide +kernel
theorem dX11_isAskAhead_30 : decode cX11_isAskAhead 30 = .ok (.getfield 152, 3) := by decide +kernel
theorem dX11_isAskAhead_33 : decode cX11_isAskAhead 33 = .ok (.iconst 1, 1) := by decide +kernel
theorem dX11_isAskAhead_34 : decode cX11_isAskAhead 34 = .ok (.isub, 1) := by decide +kernel
theorem dX11_isAskAhead_35 : decode cX11_isAskAhead 35 = .ok (.iaload, 1) := by decide +kernel
theorem dX11_isAskAhead_36 : decode cX11_isAskAhead 36 = .ok (.invokestatic 155, 3) := by decide +kernel
theorem dX11_isAskAhead_39 : decode cX11_isAskAhead 39 = .ok (.iconst 1, 1) := by decide +kernel
theorem dX11_isAskAhead_40 : decode cX11_isAskAhead 40 = .ok (.iconst 3, 1) := by decide +kernel
theorem dX11_isAskAhead_41 : decode cX11_isAskAhead 41 = .ok (.invokestatic 62, 3) := by decide +kernel
theorem dX11_isAskAhead_44 : decode cX11_isAskAhead 44 = .ok (.ifCond .eq 7, 3) := by decide +kernel
theorem dX11_isAskAhead_47 : decode cX11_isAskAhead 47 = .ok (.iconst 1, 1) := by decide +kernel
theorem dX11_isAskAhead_48 : decode cX11_isAskAhead 48 = .ok (.goto 4, 3) := by decide +kernel
theorem dX11_isAskAhead_51 : decode cX11_isAskAhead 51 = .ok (.iconst 0, 1) := by decide +kernel
theorem dX11_isAskAhead_52 : decode cX11_isAskAhead 52 = .ok (.ireturn, 1) := by decide +kernel
theorem dX11_opened_0 : decode cX11_opened 0 = .ok (.aload_n 0, 1) := by decide +kernel
theorem dX11_opened_1 : decode cX11_opened 1 = .ok (.getfield 162, 3) := by decide +kernel
theorem dX11_opened_4 : decode cX11_opened 4 = .ok (.bipush 8, 2) := by decide +kernel
theorem dX11_opened_6 : decode cX11_opened 6 = .ok (.if_icmp .ne 5, 3) := by decide +kernel
theorem dX11_opened_9 : decode cX11_opened 9 = .ok (.iconst 3, 1) := by decide +kernel
theorem dX11_opened_10 : decode cX11_opened 10 = .ok (.ireturn, 1) := by decide +kernel
theorem dX11_opened_11 : decode cX11_opened 11 = .ok (.aload_n 0, 1) := by decide +kernel
theorem dX11_opened_12 : decode cX11_opened 12 = .ok (.dup, 1) := by decide +kernel
theorem dX11_opened_13 : decode cX11_opened 13 = .ok (.getfield 162, 3) := by decide +kernel
theorem dX11_opened_16 : decode cX11_opened 16 = .ok (.iconst 1, 1) := by decide +kernel
theorem dX11_opened_17 : decode cX11_opened 17 = .ok (.iadd, 1) := by decide +kernel
theorem dX11_opened_18 : decode cX11_opened 18 = .ok (.putfield 162, 3) := by decide +kernel
theorem dX11_opened_21 : decode cX11_opened 21 = .ok (.aload_n 0, 1) := by decide +kernel
theorem dX11_opened_22 : decode cX11_opened 22 = .ok (.getfield 29, 3) := by decide +kernel
theorem dX11_opened_25 : decode cX11_opened 25 = .ok (.aload_n 0, 1) := by decide +kernel
theorem dX11_opened_26 : decode cX11_opened 26 = .ok (.getfield 152, 3) := by decide +kernel
theorem dX11_opened_29 : decode cX11_opened 29 = .ok (.iload_n 1, 1) := by decide +kernel
theorem dX11_opened_30 : decode cX11_opened 30 = .ok (.iastore, 1) := by decide +kernel
theorem dX11_opened_31 : decode cX11_opened 31 = .ok (.aload_n 0, 1) := by decide +kernel
theorem dX11_opened_32 : decode cX11_opened 32 = .ok (.dup, 1) := by decide +kernel
theorem dX11_opened_33 : decode cX11_opened 33 = .ok (.getfield 152, 3) := by decide +kernel
theorem dX11_opened_36 : decode cX11_opened 36 = .ok (.iconst 1, 1) := by decide +kernel
theorem dX11_opened_37 : decode cX11_opened 37 = .ok (.iadd, 1) := by decide +kernel
theorem dX11_opened_38 : decode cX11_opened 38 = .ok (.putfield 152, 3) := by decide +kernel
theorem dX11_opened_41 : decode cX11_opened 41 = .ok (.aload_n 0, 1) := by decide +kernel
theorem dX11_opened_42 : decode cX11_opened 42 = .ok (.invokevirtual 172, 3) := by decide +kernel
theorem dX11_opened_45 : decode cX11_opened 45 = .ok (.iconst 0, 1) := by decide +kernel
theorem dX11_opened_46 : decode cX11_opened 46 = .ok (.ireturn, 1) := by decide +kernel
theorem dX11_beginOne_0 : decode cX11_beginOne 0 = .ok (.aload_n 0, 1) := by decide +kernel
theorem dX11_beginOne_1 : decode cX11_beginOne 1 = .ok (.getfield 105, 3) := by decide +kernel
theorem dX11_beginOne_4 : decode cX11_beginOne 4 = .ok (.iconst 1, 1) := by decide +kernel
theorem dX11_beginOne_5 : decode cX11_beginOne 5 = .ok (.if_icmp .ne 15, 3) := by decide +kernel
theorem dX11_beginOne_8 : decode cX11_beginOne 8 = .ok (.aload_n 0, 1) := by decide +kernel
theorem dX11_beginOne_9 : decode cX11_beginOne 9 = .ok (.getfield 111, 3) := by decide +kernel
theorem dX11_beginOne_12 : decode cX11_beginOne 12 = .ok (.sipush 9999, 3) := by decide +kernel
theorem dX11_beginOne_15 : decode cX11_beginOne 15 = .ok (.if_icmp .le 5, 3) := by decide +kernel
theorem dX11_beginOne_18 : decode cX11_beginOne 18 = .ok (.iconst 2, 1) := by decide +kernel
theorem dX11_beginOne_19 : decode cX11_beginOne 19 = .ok (.ireturn, 1) := by decide +kernel
theorem dX11_beginOne_20 : decode cX11_beginOne 20 = .ok (.aload_n 0, 1) := by decide +kernel
theorem dX11_beginOne_21 : decode cX11_beginOne 21 = .ok (.invokevirtual 175, 3) := by decide +kernel
theorem dX11_beginOne_24 : decode cX11_beginOne 24 = .ok (.istore_n 1, 1) := by decide +kernel
theorem dX11_beginOne_25 : decode cX11_beginOne 25 = .ok (.iload_n 1, 1) := by decide +kernel
theorem dX11_beginOne_26 : decode cX11_beginOne 26 = .ok (.ifCond .lt 13, 3) := by decide +kernel
theorem dX11_beginOne_29 : decode cX11_beginOne 29 = .ok (.aload_n 0, 1) := by decide +kernel
theorem dX11_beginOne_30 : decode cX11_beginOne 30 = .ok (.iload_n 1, 1) := by decide +kernel
theorem dX11_beginOne_31 : decode cX11_beginOne 31 = .ok (.invokevirtual 178, 3) := by decide +kernel
theorem dX11_beginOne_34 : decode cX11_beginOne 34 = .ok (.ifCond .ne 5, 3) := by decide +kernel
theorem dX11_beginOne_37 : decode cX11_beginOne 37 = .ok (.iconst 5, 1) := by decide +kernel
theorem dX11_beginOne_38 : decode cX11_beginOne 38 = .ok (.ireturn, 1) := by decide +kernel
theorem dX11_beginOne_39 : decode cX11_beginOne 39 = .ok (.aload_n 0, 1) := by decide +kernel
theorem dX11_beginOne_40 : decode cX11_beginOne 40 = .ok (.getfield 105, 3) := by decide +kernel
theorem dX11_beginOne_43 : decode cX11_beginOne 43 = .ok (.iconst 1, 1) := by decide +kernel
theorem dX11_beginOne_44 : decode cX11_beginOne 44 = .ok (.if_icmp .eq 7, 3) := by decide +kernel
theorem dX11_beginOne_47 : decode cX11_beginOne 47 = .ok (.iload_n 1, 1) := by decide +kernel
theorem dX11_beginOne_48 : decode cX11_beginOne 48 = .ok (.ifCond .lt 53, 3) := by decide +kernel
theorem dX11_beginOne_51 : decode cX11_beginOne 51 = .ok (.aload_n 0, 1) := by decide +kernel
theorem dX11_beginOne_52 : decode cX11_beginOne 52 = .ok (.aload_n 0, 1) := by decide +kernel
theorem dX11_beginOne_53 : decode cX11_beginOne 53 = .ok (.getfield 105, 3) := by decide +kernel
theorem dX11_beginOne_56 : decode cX11_beginOne 56 = .ok (.iconst 1, 1) := by decide +kernel
theorem dX11_beginOne_57 : decode cX11_beginOne 57 = .ok (.if_icmp .ne 7, 3) := by decide +kernel
theorem dX11_beginOne_60 : decode cX11_beginOne 60 = .ok (.iconst 0, 1) := by decide +kernel
theorem dX11_beginOne_61 : decode cX11_beginOne 61 = .ok (.goto 4, 3) := by decide +kernel
theorem dX11_beginOne_64 : decode cX11_beginOne 64 = .ok (.iconst 1, 1) := by decide +kernel
theorem dX11_beginOne_65 : decode cX11_beginOne 65 = .ok (.aload_n 0, 1) := by decide +kernel
theorem dX11_beginOne_66 : decode cX11_beginOne 66 = .ok (.getfield 105, 3) := by decide +kernel
theorem dX11_beginOne_69 : decode cX11_beginOne 69 = .ok (.iconst 1, 1) := by decide +kernel
theorem dX11_beginOne_70 : decode cX11_beginOne 70 = .ok (.if_icmp .ne 10, 3) := by decide +kernel
theorem dX11_beginOne_73 : decode cX11_beginOne 73 = .ok (.aload_n 0, 1) := by decide +kernel
theorem dX11_beginOne_74 : decode cX11_beginOne 74 = .ok (.getfield 111, 3) := by decide +kernel
theorem dX11_beginOne_77 : decode cX11_beginOne 77 = .ok (.goto 4, 3) := by decide +kernel
theorem dX11_beginOne_80 : decode cX11_beginOne 80 = .ok (.iload_n 1, 1) := by decide +kernel
theorem dX11_beginOne_81 : decode cX11_beginOne 81 = .ok (.invokevirtual 158, 3) := by decide +kernel
theorem dX11_beginOne_84 : decode cX11_beginOne 84 = .ok (.aload_n 0, 1) := by decide +kernel
theorem dX11_beginOne_85 : decode cX11_beginOne 85 = .ok (.invokevirtual 172, 3) := by decide +kernel
theorem dX11_beginOne_88 : decode cX11_beginOne 88 = .ok (.aload_n 0, 1) := by decide +kernel
theorem dX11_beginOne_89 : decode cX11_beginOne 89 = .ok (.iconst 1, 1) := by decide +kernel
theorem dX11_beginOne_90 : decode cX11_beginOne 90 = .ok (.putfield 181, 3) := by decide +kernel
theorem dX11_beginOne_93 : decode cX11_beginOne 93 = .ok (.aload_n 0, 1) := by decide +kernel
theorem dX11_beginOne_94 : decode cX11_beginOne 94 = .ok (.bipush 7, 2) := by decide +kernel
theorem dX11_beginOne_96 : decode cX11_beginOne 96 = .ok (.invokevirtual 185, 3) := by decide +kernel
theorem dX11_beginOne_99 : decode cX11_beginOne 99 = .ok (.iconst 0, 1) := by decide +kernel
theorem dX11_beginOne_100 : decode cX11_beginOne 100 = .ok (.ireturn, 1) := by decide +kernel
theorem dX11_beginOne_101 : decode cX11_beginOne 101 = .ok (.aload_n 0, 1) := by decide +kernel
theorem dX11_beginOne_102 : decode cX11_beginOne 102 = .ok (.getfield 105, 3) := by decide +kernel
theorem dX11_beginOne_105 : decode cX11_beginOne 105 = .ok (.bipush 40, 2) := by decide +kernel
theorem dX11_beginOne_107 : decode cX11_beginOne 107 = .ok (.if_icmp .ne 10, 3) := by decide +kernel
theorem dX11_beginOne_110 : decode cX11_beginOne 110 = .ok (.aload_n 0, 1) := by decide +kernel
theorem dX11_beginOne_111 : decode cX11_beginOne 111 = .ok (.bipush 40, 2) := by decide +kernel
theorem dX11_beginOne_113 : decode cX11_beginOne 113 = .ok (.invokevirtual 188, 3) := by decide +kernel
theorem dX11_beginOne_116 : decode cX11_beginOne 116 = .ok (.ireturn, 1) := by decide +kernel
theorem dX11_beginOne_117 : decode cX11_beginOne 117 = .ok (.aload_n 0, 1) := by decide +kernel
theorem dX11_beginOne_118 : decode cX11_beginOne 118 = .ok (.getfield 105, 3) := by decide +kernel
theorem dX11_beginOne_121 : decode cX11_beginOne 121 = .ok (.bipush 45, 2) := by decide +kernel
theorem dX11_beginOne_123 : decode cX11_beginOne 123 = .ok (.if_icmp .ne 9, 3) := by decide +kernel
theorem dX11_beginOne_126 : decode cX11_beginOne 126 = .ok (.aload_n 0, 1) := by decide +kernel
theorem dX11_beginOne_127 : decode cX11_beginOne 127 = .ok (.iconst 5, 1) := by decide +kernel
theorem dX11_beginOne_128 : decode cX11_beginOne 128 = .ok (.invokevirtual 188, 3) := by decide +kernel
theorem dX11_beginOne_131 : decode cX11_beginOne 131 = .ok (.ireturn, 1) := by decide +kernel
theorem dX11_beginOne_132 : decode cX11_beginOne 132 = .ok (.aload_n 0, 1) := by decide +kernel
theorem dX11_beginOne_133 : decode cX11_beginOne 133 = .ok (.bipush 116, 2) := by decide +kernel
theorem dX11_beginOne_135 : decode cX11_beginOne 135 = .ok (.bipush 117, 2) := by decide +kernel
theorem dX11_beginOne_137 : decode cX11_beginOne 137 = .ok (.bipush 114, 2) := by decide +kernel
theorem dX11_beginOne_139 : decode cX11_beginOne 139 = .ok (.bipush 110, 2) := by decide +kernel
theorem dX11_beginOne_141 : decode cX11_beginOne 141 = .ok (.bipush 101, 2) := by decide +kernel
theorem dX11_beginOne_143 : decode cX11_beginOne 143 = .ok (.bipush 100, 2) := by decide +kernel
theorem dX11_beginOne_145 : decode cX11_beginOne 145 = .ok (.invokestatic 191, 3) := by decide +kernel
theorem dX11_beginOne_148 : decode cX11_beginOne 148 = .ok (.invokevirtual 195, 3) := by decide +kernel
theorem dX11_beginOne_151 : decode cX11_beginOne 151 = .ok (.ifCond .eq 9, 3) := by decide +kernel
theorem dX11_beginOne_154 : decode cX11_beginOne 154 = .ok (.aload_n 0, 1) := by decide +kernel
theorem dX11_beginOne_155 : decode cX11_beginOne 155 = .ok (.iconst 2, 1) := by decide +kernel
theorem dX11_beginOne_156 : decode cX11_beginOne 156 = .ok (.invokevirtual 188, 3) := by decide +kernel
theorem dX11_beginOne_159 : decode cX11_beginOne 159 = .ok (.ireturn, 1) := by decide +kernel
theorem dX11_beginOne_160 : decode cX11_beginOne 160 = .ok (.aload_n 0, 1) := by decide +kernel
theorem dX11_beginOne_161 : decode cX11_beginOne 161 = .ok (.bipush 100, 2) := by decide +kernel
theorem dX11_beginOne_163 : decode cX11_beginOne 163 = .ok (.bipush 101, 2) := by decide +kernel
theorem dX11_beginOne_165 : decode cX11_beginOne 165 = .ok (.bipush 101, 2) := by decide +kernel
theorem dX11_beginOne_167 : decode cX11_beginOne 167 = .ok (.bipush 112, 2) := by decide +kernel
theorem dX11_beginOne_169 : decode cX11_beginOne 169 = .ok (.invokestatic 135, 3) := by decide +kernel
theorem dX11_beginOne_172 : decode cX11_beginOne 172 = .ok (.invokevirtual 195, 3) := by decide +kernel
theorem dX11_beginOne_175 : decode cX11_beginOne 175 = .ok (.ifCond .eq 9, 3) := by decide +kernel
theorem dX11_beginOne_178 : decode cX11_beginOne 178 = .ok (.aload_n 0, 1) := by decide +kernel
theorem dX11_beginOne_179 : decode cX11_beginOne 179 = .ok (.iconst 3, 1) := by decide +kernel
theorem dX11_beginOne_180 : decode cX11_beginOne 180 = .ok (.invokevirtual 188, 3) := by decide +kernel
theorem dX11_beginOne_183 : decode cX11_beginOne 183 = .ok (.ireturn, 1) := by decide +kernel
theorem dX11_beginOne_184 : decode cX11_beginOne 184 = .ok (.aload_n 0, 1) := by decide +kernel
theorem dX11_beginOne_185 : decode cX11_beginOne 185 = .ok (.bipush 105, 2) := by decide +kernel
theorem dX11_beginOne_187 : decode cX11_beginOne 187 = .ok (.bipush 102, 2) := by decide +kernel
theorem dX11_beginOne_189 : decode cX11_beginOne 189 = .ok (.invokestatic 127, 3) := by decide +kernel
theorem dX11_beginOne_192 : decode cX11_beginOne 192 = .ok (.invokevirtual 195, 3) := by decide +kernel
theorem dX11_beginOne_195 : decode cX11_beginOne 195 = .ok (.ifCond .eq 10, 3) := by decide +kernel
theorem dX11_beginOne_198 : decode cX11_beginOne 198 = .ok (.aload_n 0, 1) := by decide +kernel
theorem dX11_beginOne_199 : decode cX11_beginOne 199 = .ok (.bipush 41, 2) := by decide +kernel
theorem dX11_beginOne_201 : decode cX11_beginOne 201 = .ok (.invokevirtual 188, 3) := by decide +kernel
theorem dX11_beginOne_204 : decode cX11_beginOne 204 = .ok (.ireturn, 1) := by decide +kernel
theorem dX11_beginOne_205 : decode cX11_beginOne 205 = .ok (.aload_n 0, 1) := by decide +kernel
theorem dX11_beginOne_206 : decode cX11_beginOne 206 = .ok (.bipush 110, 2) := by decide +kernel
theorem dX11_beginOne_208 : decode cX11_beginOne 208 = .ok (.bipush 111, 2) := by decide +kernel
theorem dX11_beginOne_210 : decode cX11_beginOne 210 = .ok (.bipush 116, 2) := by decide +kernel
theorem dX11_beginOne_212 : decode cX11_beginOne 212 = .ok (.invokestatic 131, 3) := by decide +kernel
theorem dX11_beginOne_215 : decode cX11_beginOne 215 = .ok (.invokevirtual 195, 3) := by decide +kernel
theorem dX11_beginOne_218 : decode cX11_beginOne 218 = .ok (.ifCond .eq 19, 3) := by decide +kernel
theorem dX11_beginOne_221 : decode cX11_beginOne 221 = .ok (.aload_n 0, 1) := by decide +kernel
theorem dX11_beginOne_222 : decode cX11_beginOne 222 = .ok (.invokevirtual 199, 3) := by decide +kernel
theorem dX11_beginOne_225 : decode cX11_beginOne 225 = .ok (.ifCond .eq 12, 3) := by decide +kernel
theorem dX11_beginOne_228 : decode cX11_beginOne 228 = .ok (.aload_n 0, 1) := by decide +kernel
theorem dX11_beginOne_229 : decode cX11_beginOne 229 = .ok (.bipush 20, 2) := by decide +kernel
theorem dX11_beginOne_231 : decode cX11_beginOne 231 = .ok (.invokevirtual 188, 3) := by decide +kernel
theorem dX11_beginOne_234 : decode cX11_beginOne 234 = .ok (.goto 4, 3) := by decide +kernel
theorem dX11_beginOne_237 : decode cX11_beginOne 237 = .ok (.iconst 1, 1) := by decide +kernel
theorem dX11_beginOne_238 : decode cX11_beginOne 238 = .ok (.ireturn, 1) := by decide +kernel
theorem dX11_compareOf_0 : decode cX11_compareOf 0 = .ok (.aload_n 0, 1) := by decide +kernel
theorem dX11_compareOf_1 : decode cX11_compareOf 1 = .ok (.getfield 105, 3) := by decide +kernel
theorem dX11_compareOf_4 : decode cX11_compareOf 4 = .ok (.bipush 60, 2) := by decide +kernel
theorem dX11_compareOf_6 : decode cX11_compareOf 6 = .ok (.if_icmp .ne 8, 3) := by decide +kernel
theorem dX11_compareOf_9 : decode cX11_compareOf 9 = .ok (.bipush 10, 2) := by decide +kernel
theorem dX11_compareOf_11 : decode cX11_compareOf 11 = .ok (.goto 72, 3) := by decide +kernel
theorem dX11_compareOf_14 : decode cX11_compareOf 14 = .ok (.aload_n 0, 1) := by decide +kernel
theorem dX11_compareOf_15 : decode cX11_compareOf 15 = .ok (.getfield 105, 3) := by decide +kernel
theorem dX11_compareOf_18 : decode cX11_compareOf 18 = .ok (.iconst 4, 1) := by decide +kernel
theorem dX11_compareOf_19 : decode cX11_compareOf 19 = .ok (.if_icmp .ne 8, 3) := by decide +kernel
theorem dX11_compareOf_22 : decode cX11_compareOf 22 = .ok (.bipush 11, 2) := by decide +kernel
theorem dX11_compareOf_24 : decode cX11_compareOf 24 = .ok (.goto 59, 3) := by decide +kernel
theorem dX11_compareOf_27 : decode cX11_compareOf 27 = .ok (.aload_n 0, 1) := by decide +kernel
theorem dX11_compareOf_28 : decode cX11_compareOf 28 = .ok (.getfield 105, 3) := by decide +kernel
theorem dX11_compareOf_31 : decode cX11_compareOf 31 = .ok (.bipush 62, 2) := by decide +kernel
theorem dX11_compareOf_33 : decode cX11_compareOf 33 = .ok (.if_icmp .ne 8, 3) := by decide +kernel
theorem dX11_compareOf_36 : decode cX11_compareOf 36 = .ok (.bipush 12, 2) := by decide +kernel
theorem dX11_compareOf_38 : decode cX11_compareOf 38 = .ok (.goto 45, 3) := by decide +kernel
theorem dX11_compareOf_41 : decode cX11_compareOf 41 = .ok (.aload_n 0, 1) := by decide +kernel
theorem dX11_compareOf_42 : decode cX11_compareOf 42 = .ok (.getfield 105, 3) := by decide +kernel
theorem dX11_compareOf_45 : decode cX11_compareOf 45 = .ok (.iconst 5, 1) := by decide +kernel
theorem dX11_compareOf_46 : decode cX11_compareOf 46 = .ok (.if_icmp .ne 8, 3) := by decide +kernel
theorem dX11_compareOf_49 : decode cX11_compareOf 49 = .ok (.bipush 13, 2) := by decide +kernel
theorem dX11_compareOf_51 : decode cX11_compareOf 51 = .ok (.goto 32, 3) := by decide +kernel
theorem dX11_compareOf_54 : decode cX11_compareOf 54 = .ok (.aload_n 0, 1) := by decide +kernel
theorem dX11_compareOf_55 : decode cX11_compareOf 55 = .ok (.getfield 105, 3) := by decide +kernel
theorem dX11_compareOf_58 : decode cX11_compareOf 58 = .ok (.bipush 61, 2) := by decide +kernel
theorem dX11_compareOf_60 : decode cX11_compareOf 60 = .ok (.if_icmp .ne 8, 3) := by decide +kernel
theorem dX11_compareOf_63 : decode cX11_compareOf 63 = .ok (.bipush 14, 2) := by decide +kernel
theorem dX11_compareOf_65 : decode cX11_compareOf 65 = .ok (.goto 18, 3) := by decide +kernel
theorem dX11_compareOf_68 : decode cX11_compareOf 68 = .ok (.aload_n 0, 1) := by decide +kernel
theorem dX11_compareOf_69 : decode cX11_compareOf 69 = .ok (.getfield 105, 3) := by decide +kernel
theorem dX11_compareOf_72 : decode cX11_compareOf 72 = .ok (.bipush 35, 2) := by decide +kernel
theorem dX11_compareOf_74 : decode cX11_compareOf 74 = .ok (.if_icmp .ne 8, 3) := by decide +kernel
theorem dX11_compareOf_77 : decode cX11_compareOf 77 = .ok (.bipush 15, 2) := by decide +kernel
theorem dX11_compareOf_79 : decode cX11_compareOf 79 = .ok (.goto 4, 3) := by decide +kernel
theorem dX11_compareOf_82 : decode cX11_compareOf 82 = .ok (.iconst (-1), 1) := by decide +kernel
theorem dX11_compareOf_83 : decode cX11_compareOf 83 = .ok (.ireturn, 1) := by decide +kernel
theorem dX11_betweenOf_0 : decode cX11_betweenOf 0 = .ok (.aload_n 0, 1) := by decide +kernel
theorem dX11_betweenOf_1 : decode cX11_betweenOf 1 = .ok (.getfield 105, 3) := by decide +kernel
theorem dX11_betweenOf_4 : decode cX11_betweenOf 4 = .ok (.bipush 43, 2) := by decide +kernel
theorem dX11_betweenOf_6 : decode cX11_betweenOf 6 = .ok (.if_icmp .ne 6, 3) := by decide +kernel
theorem dX11_betweenOf_9 : decode cX11_betweenOf 9 = .ok (.bipush 6, 2) := by decide +kernel
theorem dX11_betweenOf_11 : decode cX11_betweenOf 11 = .ok (.ireturn, 1) := by decide +kernel
theorem dX11_betweenOf_12 : decode cX11_betweenOf 12 = .ok (.aload_n 0, 1) := by decide +kernel
theorem dX11_betweenOf_13 : decode cX11_betweenOf 13 = .ok (.getfield 105, 3) := by decide +kernel
theorem dX11_betweenOf_16 : decode cX11_betweenOf 16 = .ok (.bipush 45, 2) := by decide +kernel
theorem dX11_betweenOf_18 : decode cX11_betweenOf 18 = .ok (.if_icmp .ne 6, 3) := by decide +kernel
theorem dX11_betweenOf_21 : decode cX11_betweenOf 21 = .ok (.bipush 7, 2) := by decide +kernel
theorem dX11_betweenOf_23 : decode cX11_betweenOf 23 = .ok (.ireturn, 1) := by decide +kernel
theorem dX11_betweenOf_24 : decode cX11_betweenOf 24 = .ok (.aload_n 0, 1) := by decide +kernel
theorem dX11_betweenOf_25 : decode cX11_betweenOf 25 = .ok (.getfield 105, 3) := by decide +kernel
theorem dX11_betweenOf_28 : decode cX11_betweenOf 28 = .ok (.bipush 42, 2) := by decide +kernel
theorem dX11_betweenOf_30 : decode cX11_betweenOf 30 = .ok (.if_icmp .ne 6, 3) := by decide +kernel
theorem dX11_betweenOf_33 : decode cX11_betweenOf 33 = .ok (.bipush 8, 2) := by decide +kernel
theorem dX11_betweenOf_35 : decode cX11_betweenOf 35 = .ok (.ireturn, 1) := by decide +kernel
theorem dX11_betweenOf_36 : decode cX11_betweenOf 36 = .ok (.aload_n 0, 1) := by decide +kernel
theorem dX11_betweenOf_37 : decode cX11_betweenOf 37 = .ok (.getfield 105, 3) := by decide +kernel
theorem dX11_betweenOf_40 : decode cX11_betweenOf 40 = .ok (.bipush 47, 2) := by decide +kernel
theorem dX11_betweenOf_42 : decode cX11_betweenOf 42 = .ok (.if_icmp .ne 6, 3) := by decide +kernel
theorem dX11_betweenOf_45 : decode cX11_betweenOf 45 = .ok (.bipush 9, 2) := by decide +kernel
theorem dX11_betweenOf_47 : decode cX11_betweenOf 47 = .ok (.ireturn, 1) := by decide +kernel
theorem dX11_betweenOf_48 : decode cX11_betweenOf 48 = .ok (.aload_n 0, 1) := by decide +kernel
theorem dX11_betweenOf_49 : decode cX11_betweenOf 49 = .ok (.invokevirtual 169, 3) := by decide +kernel
theorem dX11_betweenOf_52 : decode cX11_betweenOf 52 = .ok (.bipush 41, 2) := by decide +kernel
theorem dX11_betweenOf_54 : decode cX11_betweenOf 54 = .ok (.if_icmp .eq 5, 3) := by decide +kernel
theorem dX11_betweenOf_57 : decode cX11_betweenOf 57 = .ok (.iconst (-1), 1) := by decide +kernel
theorem dX11_betweenOf_58 : decode cX11_betweenOf 58 = .ok (.ireturn, 1) := by decide +kernel
theorem dX11_betweenOf_59 : decode cX11_betweenOf 59 = .ok (.aload_n 0, 1) := by decide +kernel
theorem dX11_betweenOf_60 : decode cX11_betweenOf 60 = .ok (.invokevirtual 203, 3) := by decide +kernel
theorem dX11_betweenOf_63 : decode cX11_betweenOf 63 = .ok (.ifCond .ne 8, 3) := by decide +kernel
theorem dX11_betweenOf_66 : decode cX11_betweenOf 66 = .ok (.aload_n 0, 1) := by decide +kernel
theorem dX11_betweenOf_67 : decode cX11_betweenOf 67 = .ok (.invokevirtual 206, 3) := by decide +kernel
theorem dX11_betweenOf_70 : decode cX11_betweenOf 70 = .ok (.ireturn, 1) := by decide +kernel
theorem dX11_betweenOf_71 : decode cX11_betweenOf 71 = .ok (.aload_n 0, 1) := by decide +kernel
theorem dX11_betweenOf_72 : decode cX11_betweenOf 72 = .ok (.bipush 97, 2) := by decide +kernel
theorem dX11_betweenOf_74 : decode cX11_betweenOf 74 = .ok (.bipush 110, 2) := by decide +kernel
theorem dX11_betweenOf_76 : decode cX11_betweenOf 76 = .ok (.bipush 100, 2) := by decide +kernel
theorem dX11_betweenOf_78 : decode cX11_betweenOf 78 = .ok (.invokestatic 131, 3) := by decide +kernel
theorem dX11_betweenOf_81 : decode cX11_betweenOf 81 = .ok (.invokevirtual 195, 3) := by decide +kernel
theorem dX11_betweenOf_84 : decode cX11_betweenOf 84 = .ok (.ifCond .eq 8, 3) := by decide +kernel
theorem dX11_betweenOf_87 : decode cX11_betweenOf 87 = .ok (.bipush 21, 2) := by decide +kernel
theorem dX11_betweenOf_89 : decode cX11_betweenOf 89 = .ok (.goto 23, 3) := by decide +kernel
theorem dX11_betweenOf_92 : decode cX11_betweenOf 92 = .ok (.aload_n 0, 1) := by decide +kernel
theorem dX11_betweenOf_93 : decode cX11_betweenOf 93 = .ok (.bipush 111, 2) := by decide +kernel
theorem dX11_betweenOf_95 : decode cX11_betweenOf 95 = .ok (.bipush 114, 2) := by decide +kernel
theorem dX11_betweenOf_97 : decode cX11_betweenOf 97 = .ok (.invokestatic 127, 3) := by decide +kernel
theorem dX11_betweenOf_100 : decode cX11_betweenOf 100 = .ok (.invokevirtual 195, 3) := by decide +kernel
theorem dX11_betweenOf_103 : decode cX11_betweenOf 103 = .ok (.ifCond .eq 8, 3) := by decide +kernel
theorem dX11_betweenOf_106 : decode cX11_betweenOf 106 = .ok (.bipush 22, 2) := by decide +kernel
theorem dX11_betweenOf_108 : decode cX11_betweenOf 108 = .ok (.goto 4, 3) := by decide +kernel
theorem dX11_betweenOf_111 : decode cX11_betweenOf 111 = .ok (.iconst (-1), 1) := by decide +kernel
theorem dX11_betweenOf_112 : decode cX11_betweenOf 112 = .ok (.ireturn, 1) := by decide +kernel
theorem dX11_partOf_0 : decode cX11_partOf 0 = .ok (.iload_n 1, 1) := by decide +kernel
theorem dX11_partOf_1 : decode cX11_partOf 1 = .ok (.tableswitch 125 40 43 #[31, 46, 78, 103], 31) := by decide +kernel
theorem dX11_partOf_32 : decode cX11_partOf 32 = .ok (.aload_n 0, 1) := by decide +kernel
theorem dX11_partOf_33 : decode cX11_partOf 33 = .ok (.getfield 105, 3) := by decide +kernel
theorem dX11_partOf_36 : decode cX11_partOf 36 = .ok (.bipush 41, 2) := by decide +kernel
theorem dX11_partOf_38 : decode cX11_partOf 38 = .ok (.if_icmp .ne 7, 3) := by decide +kernel
theorem dX11_partOf_41 : decode cX11_partOf 41 = .ok (.iconst 0, 1) := by decide +kernel
theorem dX11_partOf_42 : decode cX11_partOf 42 = .ok (.goto 4, 3) := by decide +kernel
theorem dX11_partOf_45 : decode cX11_partOf 45 = .ok (.iconst (-1), 1) := by decide +kernel
theorem dX11_partOf_46 : decode cX11_partOf 46 = .ok (.ireturn, 1) := by decide +kernel
theorem dX11_partOf_47 : decode cX11_partOf 47 = .ok (.aload_n 0, 1) := by decide +kernel
theorem dX11_partOf_48 : decode cX11_partOf 48 = .ok (.bipush 116, 2) := by decide +kernel
theorem dX11_partOf_50 : decode cX11_partOf 50 = .ok (.bipush 104, 2) := by decide +kernel
theorem dX11_partOf_52 : decode cX11_partOf 52 = .ok (.bipush 101, 2) := by decide +kernel
theorem dX11_partOf_54 : decode cX11_partOf 54 = .ok (.bipush 110, 2) := by decide +kernel
theorem dX11_partOf_56 : decode cX11_partOf 56 = .ok (.invokestatic 135, 3) := by decide +kernel
theorem dX11_partOf_59 : decode cX11_partOf 59 = .ok (.invokevirtual 195, 3) := by decide +kernel
theorem dX11_partOf_62 : decode cX11_partOf 62 = .ok (.ifCond .eq 15, 3) := by decide +kernel
theorem dX11_partOf_65 : decode cX11_partOf 65 = .ok (.aload_n 0, 1) := by decide +kernel
theorem dX11_partOf_66 : decode cX11_partOf 66 = .ok (.invokevirtual 203, 3) := by decide +kernel
theorem dX11_partOf_69 : decode cX11_partOf 69 = .ok (.ifCond .eq 8, 3) := by decide +kernel
theorem dX11_partOf_72 : decode cX11_partOf 72 = .ok (.bipush 42, 2) := by decide +kernel
theorem dX11_partOf_74 : decode cX11_partOf 74 = .ok (.goto 4, 3) := by decide +kernel
theorem dX11_partOf_77 : decode cX11_partOf 77 = .ok (.iconst (-1), 1) := by decide +kernel
theorem dX11_partOf_78 : decode cX11_partOf 78 = .ok (.ireturn, 1) := by decide +kernel
theorem dX11_partOf_79 : decode cX11_partOf 79 = .ok (.aload_n 0, 1) := by decide +kernel
theorem dX11_partOf_80 : decode cX11_partOf 80 = .ok (.bipush 101, 2) := by decide +kernel
theorem dX11_partOf_82 : decode cX11_partOf 82 = .ok (.bipush 108, 2) := by decide +kernel
theorem dX11_partOf_84 : decode cX11_partOf 84 = .ok (.bipush 115, 2) := by decide +kernel
theorem dX11_partOf_86 : decode cX11_partOf 86 = .ok (.bipush 101, 2) := by decide +kernel
theorem dX11_partOf_88 : decode cX11_partOf 88 = .ok (.invokestatic 135, 3) := by decide +kernel
theorem dX11_partOf_91 : decode cX11_partOf 91 = .ok (.invokevirtual 195, 3) := by decide +kernel
theorem dX11_partOf_94 : decode cX11_partOf 94 = .ok (.ifCond .eq 8, 3) := by decide +kernel
theorem dX11_partOf_97 : decode cX11_partOf 97 = .ok (.bipush 43, 2) := by decide +kernel
theorem dX11_partOf_99 : decode cX11_partOf 99 = .ok (.goto 4, 3) := by decide +kernel
theorem dX11_partOf_102 : decode cX11_partOf 102 = .ok (.iconst (-1), 1) := by decide +kernel
theorem dX11_partOf_103 : decode cX11_partOf 103 = .ok (.ireturn, 1) := by decide +kernel
theorem dX11_partOf_104 : decode cX11_partOf 104 = .ok (.aload_n 0, 1) := by decide +kernel
theorem dX11_partOf_105 : decode cX11_partOf 105 = .ok (.bipush 101, 2) := by decide +kernel
theorem dX11_partOf_107 : decode cX11_partOf 107 = .ok (.bipush 110, 2) := by decide +kernel
theorem dX11_partOf_109 : decode cX11_partOf 109 = .ok (.bipush 100, 2) := by decide +kernel
theorem dX11_partOf_111 : decode cX11_partOf 111 = .ok (.invokestatic 131, 3) := by decide +kernel
theorem dX11_partOf_114 : decode cX11_partOf 114 = .ok (.invokevirtual 195, 3) := by decide +kernel
theorem dX11_partOf_117 : decode cX11_partOf 117 = .ok (.ifCond .eq 7, 3) := by decide +kernel
theorem dX11_partOf_120 : decode cX11_partOf 120 = .ok (.iconst 0, 1) := by decide +kernel
theorem dX11_partOf_121 : decode cX11_partOf 121 = .ok (.goto 4, 3) := by decide +kernel
theorem dX11_partOf_124 : decode cX11_partOf 124 = .ok (.iconst (-1), 1) := by decide +kernel
theorem dX11_partOf_125 : decode cX11_partOf 125 = .ok (.ireturn, 1) := by decide +kernel
theorem dX11_partOf_126 : decode cX11_partOf 126 = .ok (.iconst (-1), 1) := by decide +kernel
theorem dX11_partOf_127 : decode cX11_partOf 127 = .ok (.ireturn, 1) := by decide +kernel
theorem dX11_behindOne_0 : decode cX11_behindOne 0 = .ok (.aload_n 0, 1) := by decide +kernel
theorem dX11_behindOne_1 : decode cX11_behindOne 1 = .ok (.invokevirtual 209, 3) := by decide +kernel
theorem dX11_behindOne_4 : decode cX11_behindOne 4 = .ok (.istore_n 1, 1) := by decide +kernel
theorem dX11_behindOne_5 : decode cX11_behindOne 5 = .ok (.iload_n 1, 1) := by decide +kernel
theorem dX11_behindOne_6 : decode cX11_behindOne 6 = .ok (.ifCond .lt 54, 3) := by decide +kernel
theorem dX11_behindOne_9 : decode cX11_behindOne 9 = .ok (.aload_n 0, 1) := by decide +kernel
theorem dX11_behindOne_10 : decode cX11_behindOne 10 = .ok (.iload_n 1, 1) := by decide +kernel
theorem dX11_behindOne_11 : decode cX11_behindOne 11 = .ok (.invokestatic 155, 3) := by decide +kernel
theorem dX11_behindOne_14 : decode cX11_behindOne 14 = .ok (.iconst 4, 1) := by decide +kernel
theorem dX11_behindOne_15 : decode cX11_behindOne 15 = .ok (.if_icmp .ne 7, 3) := by decide +kernel
theorem dX11_behindOne_18 : decode cX11_behindOne 18 = .ok (.iconst 5, 1) := by decide +kernel
theorem dX11_behindOne_19 : decode cX11_behindOne 19 = .ok (.goto 7, 3) := by decide +kernel
theorem dX11_behindOne_22 : decode cX11_behindOne 22 = .ok (.iload_n 1, 1) := by decide +kernel
theorem dX11_behindOne_23 : decode cX11_behindOne 23 = .ok (.invokestatic 155, 3) := by decide +kernel
theorem dX11_behindOne_26 : decode cX11_behindOne 26 = .ok (.invokevirtual 185, 3) := by decide +kernel
theorem dX11_behindOne_29 : decode cX11_behindOne 29 = .ok (.aload_n 0, 1) := by decide +kernel
theorem dX11_behindOne_30 : decode cX11_behindOne 30 = .ok (.getfield 29, 3) := by decide +kernel
theorem dX11_behindOne_33 : decode cX11_behindOne 33 = .ok (.aload_n 0, 1) := by decide +kernel
theorem dX11_behindOne_34 : decode cX11_behindOne 34 = .ok (.getfield 152, 3) := by decide +kernel
theorem dX11_behindOne_37 : decode cX11_behindOne 37 = .ok (.iload_n 1, 1) := by decide +kernel
theorem dX11_behindOne_38 : decode cX11_behindOne 38 = .ok (.iastore, 1) := by decide +kernel
theorem dX11_behindOne_39 : decode cX11_behindOne 39 = .ok (.aload_n 0, 1) := by decide +kernel
theorem dX11_behindOne_40 : decode cX11_behindOne 40 = .ok (.dup, 1) := by decide +kernel
theorem dX11_behindOne_41 : decode cX11_behindOne 41 = .ok (.getfield 152, 3) := by decide +kernel
theorem dX11_behindOne_44 : decode cX11_behindOne 44 = .ok (.iconst 1, 1) := by decide +kernel
theorem dX11_behindOne_45 : decode cX11_behindOne 45 = .ok (.iadd, 1) := by decide +kernel
theorem dX11_behindOne_46 : decode cX11_behindOne 46 = .ok (.putfield 152, 3) := by decide +kernel
theorem dX11_behindOne_49 : decode cX11_behindOne 49 = .ok (.aload_n 0, 1) := by decide +kernel
theorem dX11_behindOne_50 : decode cX11_behindOne 50 = .ok (.iconst 0, 1) := by decide +kernel
theorem dX11_behindOne_51 : decode cX11_behindOne 51 = .ok (.putfield 181, 3) := by decide +kernel
theorem dX11_behindOne_54 : decode cX11_behindOne 54 = .ok (.aload_n 0, 1) := by decide +kernel
theorem dX11_behindOne_55 : decode cX11_behindOne 55 = .ok (.invokevirtual 172, 3) := by decide +kernel
theorem dX11_behindOne_58 : decode cX11_behindOne 58 = .ok (.iconst 1, 1) := by decide +kernel
theorem dX11_behindOne_59 : decode cX11_behindOne 59 = .ok (.ireturn, 1) := by decide +kernel
theorem dX11_behindOne_60 : decode cX11_behindOne 60 = .ok (.aload_n 0, 1) := by decide +kernel
theorem dX11_behindOne_61 : decode cX11_behindOne 61 = .ok (.invokevirtual 169, 3) := by decide +kernel
theorem dX11_behindOne_64 : decode cX11_behindOne 64 = .ok (.istore_n 2, 1) := by decide +kernel
theorem dX11_behindOne_65 : decode cX11_behindOne 65 = .ok (.aload_n 0, 1) := by decide +kernel
theorem dX11_behindOne_66 : decode cX11_behindOne 66 = .ok (.iload_n 2, 1) := by decide +kernel
theorem dX11_behindOne_67 : decode cX11_behindOne 67 = .ok (.invokevirtual 212, 3) := by decide +kernel
theorem dX11_behindOne_70 : decode cX11_behindOne 70 = .ok (.istore_n 3, 1) := by decide +kernel
theorem dX11_behindOne_71 : decode cX11_behindOne 71 = .ok (.iload_n 3, 1) := by decide +kernel
theorem dX11_behindOne_72 : decode cX11_behindOne 72 = .ok (.ifCond .ge 5, 3) := by decide +kernel
theorem dX11_behindOne_75 : decode cX11_behindOne 75 = .ok (.iconst 0, 1) := by decide +kernel
theorem dX11_behindOne_76 : decode cX11_behindOne 76 = .ok (.ireturn, 1) := by decide +kernel
theorem dX11_behindOne_77 : decode cX11_behindOne 77 = .ok (.aload_n 0, 1) := by decide +kernel
theorem dX11_behindOne_78 : decode cX11_behindOne 78 = .ok (.iconst 1, 1) := by decide +kernel
theorem dX11_behindOne_79 : decode cX11_behindOne 79 = .ok (.invokevirtual 185, 3) := by decide +kernel
theorem dX11_behindOne_82 : decode cX11_behindOne 82 = .ok (.aload_n 0, 1) := by decide +kernel
theorem dX11_behindOne_83 : decode cX11_behindOne 83 = .ok (.invokevirtual 172, 3) := by decide +kernel
theorem dX11_behindOne_86 : decode cX11_behindOne 86 = .ok (.iload_n 3, 1) := by decide +kernel
theorem dX11_behindOne_87 : decode cX11_behindOne 87 = .ok (.ifCond .le 20, 3) := by decide +kernel
theorem dX11_behindOne_90 : decode cX11_behindOne 90 = .ok (.aload_n 0, 1) := by decide +kernel
theorem dX11_behindOne_91 : decode cX11_behindOne 91 = .ok (.getfield 29, 3) := by decide +kernel
theorem dX11_behindOne_94 : decode cX11_behindOne 94 = .ok (.aload_n 0, 1) := by decide +kernel
theorem dX11_behindOne_95 : decode cX11_behindOne 95 = .ok (.invokevirtual 165, 3) := by decide +kernel
theorem dX11_behindOne_98 : decode cX11_behindOne 98 = .ok (.iload_n 3, 1) := by decide +kernel
theorem dX11_behindOne_99 : decode cX11_behindOne 99 = .ok (.iastore, 1) := by decide +kernel
theorem dX11_behindOne_100 : decode cX11_behindOne 100 = .ok (.aload_n 0, 1) := by decide +kernel
theorem dX11_behindOne_101 : decode cX11_behindOne 101 = .ok (.iconst 0, 1) := by decide +kernel
theorem dX11_behindOne_102 : decode cX11_behindOne 102 = .ok (.putfield 181, 3) := by decide +kernel
theorem dX11_behindOne_105 : decode cX11_behindOne 105 = .ok (.iconst 1, 1) := by decide +kernel
theorem dX11_behindOne_106 : decode cX11_behindOne 106 = .ok (.ireturn, 1) := by decide +kernel
theorem dX11_behindOne_107 : decode cX11_behindOne 107 = .ok (.aload_n 0, 1) := by decide +kernel
theorem dX11_behindOne_108 : decode cX11_behindOne 108 = .ok (.dup, 1) := by decide +kernel
theorem dX11_behindOne_109 : decode cX11_behindOne 109 = .ok (.getfield 162, 3) := by decide +kernel
theorem dX11_behindOne_112 : decode cX11_behindOne 112 = .ok (.iconst 1, 1) := by decide +kernel
theorem dX11_behindOne_113 : decode cX11_behindOne 113 = .ok (.isub, 1) := by decide +kernel
theorem dX11_behindOne_114 : decode cX11_behindOne 114 = .ok (.putfield 162, 3) := by decide +kernel
theorem dX11_behindOne_117 : decode cX11_behindOne 117 = .ok (.aload_n 0, 1) := by decide +kernel
theorem dX11_behindOne_118 : decode cX11_behindOne 118 = .ok (.dup, 1) := by decide +kernel
theorem dX11_behindOne_119 : decode cX11_behindOne 119 = .ok (.getfield 152, 3) := by decide +kernel
theorem dX11_behindOne_122 : decode cX11_behindOne 122 = .ok (.iconst 1, 1) := by decide +kernel
theorem dX11_behindOne_123 : decode cX11_behindOne 123 = .ok (.isub, 1) := by decide +kernel
theorem dX11_behindOne_124 : decode cX11_behindOne 124 = .ok (.putfield 152, 3) := by decide +kernel
theorem dX11_behindOne_127 : decode cX11_behindOne 127 = .ok (.iload_n 2, 1) := by decide +kernel
theorem dX11_behindOne_128 : decode cX11_behindOne 128 = .ok (.bipush 43, 2) := by decide +kernel
theorem dX11_behindOne_130 : decode cX11_behindOne 130 = .ok (.if_icmp .ne 9, 3) := by decide +kernel
theorem dX11_behindOne_133 : decode cX11_behindOne 133 = .ok (.aload_n 0, 1) := by decide +kernel
theorem dX11_behindOne_134 : decode cX11_behindOne 134 = .ok (.iconst 4, 1) := by decide +kernel
theorem dX11_behindOne_135 : decode cX11_behindOne 135 = .ok (.iconst 0, 1) := by decide +kernel
theorem dX11_behindOne_136 : decode cX11_behindOne 136 = .ok (.invokevirtual 158, 3) := by decide +kernel
theorem dX11_behindOne_139 : decode cX11_behindOne 139 = .ok (.aload_n 0, 1) := by decide +kernel
theorem dX11_behindOne_140 : decode cX11_behindOne 140 = .ok (.bipush 7, 2) := by decide +kernel
theorem dX11_behindOne_142 : decode cX11_behindOne 142 = .ok (.invokevirtual 185, 3) := by decide +kernel
theorem dX11_behindOne_145 : decode cX11_behindOne 145 = .ok (.iconst 1, 1) := by decide +kernel
theorem dX11_behindOne_146 : decode cX11_behindOne 146 = .ok (.ireturn, 1) := by decide +kernel
theorem dX11_summed_0 : decode cX11_summed 0 = .ok (.aload_n 0, 1) := by decide +kernel
theorem dX11_summed_1 : decode cX11_summed 1 = .ok (.iconst 0, 1) := by decide +kernel
theorem dX11_summed_2 : decode cX11_summed 2 = .ok (.putfield 152, 3) := by decide +kernel
theorem dX11_summed_5 : decode cX11_summed 5 = .ok (.aload_n 0, 1) := by decide +kernel
theorem dX11_summed_6 : decode cX11_summed 6 = .ok (.iconst 0, 1) := by decide +kernel
theorem dX11_summed_7 : decode cX11_summed 7 = .ok (.putfield 162, 3) := by decide +kernel
theorem dX11_summed_10 : decode cX11_summed 10 = .ok (.aload_n 0, 1) := by decide +kernel
theorem dX11_summed_11 : decode cX11_summed 11 = .ok (.iconst 0, 1) := by decide +kernel
theorem dX11_summed_12 : decode cX11_summed 12 = .ok (.putfield 181, 3) := by decide +kernel
theorem dX11_summed_15 : decode cX11_summed 15 = .ok (.aload_n 0, 1) := by decide +kernel
theorem dX11_summed_16 : decode cX11_summed 16 = .ok (.getfield 181, 3) := by decide +kernel
theorem dX11_summed_19 : decode cX11_summed 19 = .ok (.ifCond .eq 29, 3) := by decide +kernel
theorem dX11_summed_22 : decode cX11_summed 22 = .ok (.aload_n 0, 1) := by decide +kernel
theorem dX11_summed_23 : decode cX11_summed 23 = .ok (.invokevirtual 215, 3) := by decide +kernel
theorem dX11_summed_26 : decode cX11_summed 26 = .ok (.ifCond .eq 6, 3) := by decide +kernel
theorem dX11_summed_29 : decode cX11_summed 29 = .ok (.goto (-14), 3) := by decide +kernel
theorem dX11_summed_32 : decode cX11_summed 32 = .ok (.aload_n 0, 1) := by decide +kernel
theorem dX11_summed_33 : decode cX11_summed 33 = .ok (.invokevirtual 169, 3) := by decide +kernel
theorem dX11_summed_36 : decode cX11_summed 36 = .ok (.ifCond .lt 5, 3) := by decide +kernel
theorem dX11_summed_39 : decode cX11_summed 39 = .ok (.iconst 1, 1) := by decide +kernel
theorem dX11_summed_40 : decode cX11_summed 40 = .ok (.ireturn, 1) := by decide +kernel
theorem dX11_summed_41 : decode cX11_summed 41 = .ok (.aload_n 0, 1) := by decide +kernel
theorem dX11_summed_42 : decode cX11_summed 42 = .ok (.iconst 1, 1) := by decide +kernel
theorem dX11_summed_43 : decode cX11_summed 43 = .ok (.invokevirtual 185, 3) := by decide +kernel
theorem dX11_summed_46 : decode cX11_summed 46 = .ok (.iconst 0, 1) := by decide +kernel
theorem dX11_summed_47 : decode cX11_summed 47 = .ok (.ireturn, 1) := by decide +kernel
theorem dX11_summed_48 : decode cX11_summed 48 = .ok (.aload_n 0, 1) := by decide +kernel
theorem dX11_summed_49 : decode cX11_summed 49 = .ok (.invokevirtual 218, 3) := by decide +kernel
theorem dX11_summed_52 : decode cX11_summed 52 = .ok (.istore_n 1, 1) := by decide +kernel
theorem dX11_summed_53 : decode cX11_summed 53 = .ok (.iload_n 1, 1) := by decide +kernel
theorem dX11_summed_54 : decode cX11_summed 54 = .ok (.ifCond .eq 5, 3) := by decide +kernel
theorem dX11_summed_57 : decode cX11_summed 57 = .ok (.iload_n 1, 1) := by decide +kernel
theorem dX11_summed_58 : decode cX11_summed 58 = .ok (.ireturn, 1) := by decide +kernel
theorem dX11_summed_59 : decode cX11_summed 59 = .ok (.goto (-44), 3) := by decide +kernel
theorem dX11_figure_0 : decode cX11_figure 0 = .ok (.aload_n 0, 1) := by decide +kernel
theorem dX11_figure_1 : decode cX11_figure 1 = .ok (.getfield 105, 3) := by decide +kernel
theorem dX11_figure_4 : decode cX11_figure 4 = .ok (.iconst 1, 1) := by decide +kernel
theorem dX11_figure_5 : decode cX11_figure 5 = .ok (.if_icmp .eq 5, 3) := by decide +kernel
theorem dX11_figure_8 : decode cX11_figure 8 = .ok (.iconst 1, 1) := by decide +kernel
theorem dX11_figure_9 : decode cX11_figure 9 = .ok (.ireturn, 1) := by decide +kernel
theorem dX11_figure_10 : decode cX11_figure 10 = .ok (.aload_n 0, 1) := by decide +kernel
theorem dX11_figure_11 : decode cX11_figure 11 = .ok (.getfield 111, 3) := by decide +kernel
theorem dX11_figure_14 : decode cX11_figure 14 = .ok (.iload_n 2, 1) := by decide +kernel
theorem dX11_figure_15 : decode cX11_figure 15 = .ok (.iload_n 3, 1) := by decide +kernel
theorem dX11_figure_16 : decode cX11_figure 16 = .ok (.invokestatic 62, 3) := by decide +kernel
theorem dX11_figure_19 : decode cX11_figure 19 = .ok (.ifCond .ne 5, 3) := by decide +kernel
theorem dX11_figure_22 : decode cX11_figure 22 = .ok (.iconst 2, 1) := by decide +kernel
theorem dX11_figure_23 : decode cX11_figure 23 = .ok (.ireturn, 1) := by decide +kernel
theorem dX11_figure_24 : decode cX11_figure 24 = .ok (.aload_n 0, 1) := by decide +kernel
theorem dX11_figure_25 : decode cX11_figure 25 = .ok (.getfield 16, 3) := by decide +kernel
theorem dX11_figure_28 : decode cX11_figure 28 = .ok (.iload_n 1, 1) := by decide +kernel
theorem dX11_figure_29 : decode cX11_figure 29 = .ok (.aload_n 0, 1) := by decide +kernel
theorem dX11_figure_30 : decode cX11_figure 30 = .ok (.getfield 111, 3) := by decide +kernel
theorem dX11_figure_33 : decode cX11_figure 33 = .ok (.iastore, 1) := by decide +kernel
theorem dX11_figure_34 : decode cX11_figure 34 = .ok (.aload_n 0, 1) := by decide +kernel
theorem dX11_figure_35 : decode cX11_figure 35 = .ok (.invokevirtual 172, 3) := by decide +kernel
theorem dX11_figure_38 : decode cX11_figure 38 = .ok (.iconst 0, 1) := by decide +kernel
theorem dX11_figure_39 : decode cX11_figure 39 = .ok (.ireturn, 1) := by decide +kernel
theorem dX11_worded_0 : decode cX11_worded 0 = .ok (.aload_n 0, 1) := by decide +kernel
theorem dX11_worded_1 : decode cX11_worded 1 = .ok (.lload_n 1, 1) := by decide +kernel
theorem dX11_worded_2 : decode cX11_worded 2 = .ok (.invokevirtual 195, 3) := by decide +kernel
theorem dX11_worded_5 : decode cX11_worded 5 = .ok (.ifCond .ne 5, 3) := by decide +kernel
theorem dX11_worded_8 : decode cX11_worded 8 = .ok (.iconst 1, 1) := by decide +kernel
theorem dX11_worded_9 : decode cX11_worded 9 = .ok (.ireturn, 1) := by decide +kernel
theorem dX11_worded_10 : decode cX11_worded 10 = .ok (.aload_n 0, 1) := by decide +kernel
theorem dX11_worded_11 : decode cX11_worded 11 = .ok (.invokevirtual 172, 3) := by decide +kernel
theorem dX11_worded_14 : decode cX11_worded 14 = .ok (.aload_n 0, 1) := by decide +kernel
theorem dX11_worded_15 : decode cX11_worded 15 = .ok (.iload_n 3, 1) := by decide +kernel
theorem dX11_worded_16 : decode cX11_worded 16 = .ok (.iload 4, 2) := by decide +kernel
theorem dX11_worded_18 : decode cX11_worded 18 = .ok (.iload 5, 2) := by decide +kernel
theorem dX11_worded_20 : decode cX11_worded 20 = .ok (.invokevirtual 221, 3) := by decide +kernel
theorem dX11_worded_23 : decode cX11_worded 23 = .ok (.ireturn, 1) := by decide +kernel
theorem dX11_lawClause_0 : decode cX11_lawClause 0 = .ok (.aload_n 0, 1) := by decide +kernel
theorem dX11_lawClause_1 : decode cX11_lawClause 1 = .ok (.getfield 16, 3) := by decide +kernel
theorem dX11_lawClause_4 : decode cX11_lawClause 4 = .ok (.iload_n 1, 1) := by decide +kernel
theorem dX11_lawClause_5 : decode cX11_lawClause 5 = .ok (.iconst 1, 1) := by decide +kernel
theorem dX11_lawClause_6 : decode cX11_lawClause 6 = .ok (.iadd, 1) := by decide +kernel
theorem dX11_lawClause_7 : decode cX11_lawClause 7 = .ok (.aload_n 0, 1) := by decide +kernel
theorem dX11_lawClause_8 : decode cX11_lawClause 8 = .ok (.getfield 146, 3) := by decide +kernel
theorem dX11_lawClause_11 : decode cX11_lawClause 11 = .ok (.iastore, 1) := by decide +kernel
theorem dX11_lawClause_12 : decode cX11_lawClause 12 = .ok (.aload_n 0, 1) := by decide +kernel
theorem dX11_lawClause_13 : decode cX11_lawClause 13 = .ok (.invokevirtual 225, 3) := by decide +kernel
theorem dX11_lawClause_16 : decode cX11_lawClause 16 = .ok (.istore_n 2, 1) := by decide +kernel
theorem dX11_lawClause_17 : decode cX11_lawClause 17 = .ok (.aload_n 0, 1) := by decide +kernel
theorem dX11_lawClause_18 : decode cX11_lawClause 18 = .ok (.getfield 16, 3) := by decide +kernel
theorem dX11_lawClause_21 : decode cX11_lawClause 21 = .ok (.iload_n 1, 1) := by decide +kernel
theorem dX11_lawClause_22 : decode cX11_lawClause 22 = .ok (.iconst 2, 1) := by decide +kernel
theorem dX11_lawClause_23 : decode cX11_lawClause 23 = .ok (.iadd, 1) := by decide +kernel
theorem dX11_lawClause_24 : decode cX11_lawClause 24 = .ok (.aload_n 0, 1) := by decide +kernel
theorem dX11_lawClause_25 : decode cX11_lawClause 25 = .ok (.getfield 146, 3) := by decide +kernel
theorem dX11_lawClause_28 : decode cX11_lawClause 28 = .ok (.iastore, 1) := by decide +kernel
theorem dX11_lawClause_29 : decode cX11_lawClause 29 = .ok (.iload_n 2, 1) := by decide +kernel
theorem dX11_lawClause_30 : decode cX11_lawClause 30 = .ok (.ireturn, 1) := by decide +kernel
theorem dX11_creaseClause_0 : decode cX11_creaseClause 0 = .ok (.aload_n 0, 1) := by decide +kernel
theorem dX11_creaseClause_1 : decode cX11_creaseClause 1 = .ok (.iload_n 1, 1) := by decide +kernel
theorem dX11_creaseClause_2 : decode cX11_creaseClause 2 = .ok (.iconst 1, 1) := by decide +kernel
theorem dX11_creaseClause_3 : decode cX11_creaseClause 3 = .ok (.iadd, 1) := by decide +kernel
theorem dX11_creaseClause_4 : decode cX11_creaseClause 4 = .ok (.iconst 0, 1) := by decide +kernel
theorem dX11_creaseClause_5 : decode cX11_creaseClause 5 = .ok (.iconst 4, 1) := by decide +kernel
theorem dX11_creaseClause_6 : decode cX11_creaseClause 6 = .ok (.invokevirtual 221, 3) := by decide +kernel
theorem dX11_creaseClause_9 : decode cX11_creaseClause 9 = .ok (.istore_n 2, 1) := by decide +kernel
theorem dX11_creaseClause_10 : decode cX11_creaseClause 10 = .ok (.iload_n 2, 1) := by decide +kernel
theorem dX11_creaseClause_11 : decode cX11_creaseClause 11 = .ok (.ifCond .ne 25, 3) := by decide +kernel
theorem dX11_creaseClause_14 : decode cX11_creaseClause 14 = .ok (.aload_n 0, 1) := by decide +kernel
theorem dX11_creaseClause_15 : decode cX11_creaseClause 15 = .ok (.bipush 121, 2) := by decide +kernel
theorem dX11_creaseClause_17 : decode cX11_creaseClause 17 = .ok (.bipush 101, 2) := by decide +kernel
theorem dX11_creaseClause_19 : decode cX11_creaseClause 19 = .ok (.bipush 97, 2) := by decide +kernel
theorem dX11_creaseClause_21 : decode cX11_creaseClause 21 = .ok (.bipush 114, 2) := by decide +kernel
theorem dX11_creaseClause_23 : decode cX11_creaseClause 23 = .ok (.invokestatic 135, 3) := by decide +kernel
theorem dX11_creaseClause_26 : decode cX11_creaseClause 26 = .ok (.iload_n 1, 1) := by decide +kernel
theorem dX11_creaseClause_27 : decode cX11_creaseClause 27 = .ok (.iconst 2, 1) := by decide +kernel
theorem dX11_creaseClause_28 : decode cX11_creaseClause 28 = .ok (.iadd, 1) := by decide +kernel
theorem dX11_creaseClause_29 : decode cX11_creaseClause 29 = .ok (.iconst 0, 1) := by decide +kernel
theorem dX11_creaseClause_30 : decode cX11_creaseClause 30 = .ok (.bipush 99, 2) := by decide +kernel
theorem dX11_creaseClause_32 : decode cX11_creaseClause 32 = .ok (.invokevirtual 228, 3) := by decide +kernel
theorem dX11_creaseClause_35 : decode cX11_creaseClause 35 = .ok (.istore_n 2, 1) := by decide +kernel
theorem dX11_creaseClause_36 : decode cX11_creaseClause 36 = .ok (.iload_n 2, 1) := by decide +kernel
theorem dX11_creaseClause_37 : decode cX11_creaseClause 37 = .ok (.ifCond .eq 7, 3) := by decide +kernel
theorem dX11_creaseClause_40 : decode cX11_creaseClause 40 = .ok (.iload_n 2, 1) := by decide +kernel
theorem dX11_creaseClause_41 : decode cX11_creaseClause 41 = .ok (.goto 26, 3) := by decide +kernel
theorem dX11_creaseClause_44 : decode cX11_creaseClause 44 = .ok (.aload_n 0, 1) := by decide +kernel
theorem dX11_creaseClause_45 : decode cX11_creaseClause 45 = .ok (.bipush 100, 2) := by decide +kernel
theorem dX11_creaseClause_47 : decode cX11_creaseClause 47 = .ok (.bipush 101, 2) := by decide +kernel
theorem dX11_creaseClause_49 : decode cX11_creaseClause 49 = .ok (.bipush 112, 2) := by decide +kernel
theorem dX11_creaseClause_51 : decode cX11_creaseClause 51 = .ok (.bipush 116, 2) := by decide +kernel
theorem dX11_creaseClause_53 : decode cX11_creaseClause 53 = .ok (.bipush 104, 2) := by decide +kernel
theorem dX11_creaseClause_55 : decode cX11_creaseClause 55 = .ok (.invokestatic 139, 3) := by decide +kernel
theorem dX11_creaseClause_58 : decode cX11_creaseClause 58 = .ok (.iload_n 1, 1) := by decide +kernel
theorem dX11_creaseClause_59 : decode cX11_creaseClause 59 = .ok (.iconst 3, 1) := by decide +kernel
theorem dX11_creaseClause_60 : decode cX11_creaseClause 60 = .ok (.iadd, 1) := by decide +kernel
theorem dX11_creaseClause_61 : decode cX11_creaseClause 61 = .ok (.iconst 1, 1) := by decide +kernel
theorem dX11_creaseClause_62 : decode cX11_creaseClause 62 = .ok (.bipush 9, 2) := by decide +kernel
theorem dX11_creaseClause_64 : decode cX11_creaseClause 64 = .ok (.invokevirtual 228, 3) := by decide +kernel
theorem dX11_creaseClause_67 : decode cX11_creaseClause 67 = .ok (.ireturn, 1) := by decide +kernel
theorem dX11_pair_0 : decode cX11_pair 0 = .ok (.aload_n 0, 1) := by decide +kernel
theorem dX11_pair_1 : decode cX11_pair 1 = .ok (.iload_n 1, 1) := by decide +kernel
theorem dX11_pair_2 : decode cX11_pair 2 = .ok (.iconst 1, 1) := by decide +kernel
theorem dX11_pair_3 : decode cX11_pair 3 = .ok (.iadd, 1) := by decide +kernel
theorem dX11_pair_4 : decode cX11_pair 4 = .ok (.iconst 0, 1) := by decide +kernel
theorem dX11_pair_5 : decode cX11_pair 5 = .ok (.iload_n 2, 1) := by decide +kernel
theorem dX11_pair_6 : decode cX11_pair 6 = .ok (.invokevirtual 221, 3) := by decide +kernel
theorem dX11_pair_9 : decode cX11_pair 9 = .ok (.istore 6, 2) := by decide +kernel
theorem dX11_pair_11 : decode cX11_pair 11 = .ok (.iload 6, 2) := by decide +kernel
theorem dX11_pair_13 : decode cX11_pair 13 = .ok (.ifCond .eq 8, 3) := by decide +kernel
theorem dX11_pair_16 : decode cX11_pair 16 = .ok (.iload 6, 2) := by decide +kernel
theorem dX11_pair_18 : decode cX11_pair 18 = .ok (.goto 14, 3) := by decide +kernel
theorem dX11_pair_21 : decode cX11_pair 21 = .ok (.aload_n 0, 1) := by decide +kernel
theorem dX11_pair_22 : decode cX11_pair 22 = .ok (.lload_n 3, 1) := by decide +kernel
theorem dX11_pair_23 : decode cX11_pair 23 = .ok (.iload_n 1, 1) := by decide +kernel
theorem dX11_pair_24 : decode cX11_pair 24 = .ok (.iconst 2, 1) := by decide +kernel
theorem dX11_pair_25 : decode cX11_pair 25 = .ok (.iadd, 1) := by decide +kernel
theorem dX11_pair_26 : decode cX11_pair 26 = .ok (.iconst 0, 1) := by decide +kernel
theorem dX11_pair_27 : decode cX11_pair 27 = .ok (.iload 5, 2) := by decide +kernel
theorem dX11_pair_29 : decode cX11_pair 29 = .ok (.invokevirtual 228, 3) := by decide +kernel
theorem dX11_pair_32 : decode cX11_pair 32 = .ok (.ireturn, 1) := by decide +kernel
theorem dX11_body_0 : decode cX11_body 0 = .ok (.iload_n 1, 1) := by decide +kernel
theorem dX11_body_1 : decode cX11_body 1 = .ok (.tableswitch 148 3 10 #[47, 70, 76, 93, 104, 115, 126, 137], 47) := by decide +kernel
theorem dX11_body_48 : decode cX11_body 48 = .ok (.aload_n 0, 1) := by decide +kernel
theorem dX11_body_49 : decode cX11_body 49 = .ok (.iload_n 2, 1) := by decide +kernel
theorem dX11_body_50 : decode cX11_body 50 = .ok (.iconst 2, 1) := by decide +kernel
theorem dX11_body_51 : decode cX11_body 51 = .ok (.bipush 99, 2) := by decide +kernel
theorem dX11_body_53 : decode cX11_body 53 = .ok (.bipush 111, 2) := by decide +kernel
theorem dX11_body_55 : decode cX11_body 55 = .ok (.bipush 105, 2) := by decide +kernel
theorem dX11_body_57 : decode cX11_body 57 = .ok (.bipush 110, 2) := by decide +kernel
theorem dX11_body_59 : decode cX11_body 59 = .ok (.bipush 115, 2) := by decide +kernel
theorem dX11_body_61 : decode cX11_body 61 = .ok (.invokestatic 139, 3) := by decide +kernel
theorem dX11_body_64 : decode cX11_body 64 = .ok (.sipush 9999, 3) := by decide +kernel
theorem dX11_body_67 : decode cX11_body 67 = .ok (.invokevirtual 232, 3) := by decide +kernel
theorem dX11_body_70 : decode cX11_body 70 = .ok (.ireturn, 1) := by decide +kernel
theorem dX11_body_71 : decode cX11_body 71 = .ok (.aload_n 0, 1) := by decide +kernel
theorem dX11_body_72 : decode cX11_body 72 = .ok (.iload_n 2, 1) := by decide +kernel
theorem dX11_body_73 : decode cX11_body 73 = .ok (.invokevirtual 236, 3) := by decide +kernel
theorem dX11_body_76 : decode cX11_body 76 = .ok (.ireturn, 1) := by decide +kernel
theorem dX11_body_77 : decode cX11_body 77 = .ok (.aload_n 0, 1) := by decide +kernel
theorem dX11_body_78 : decode cX11_body 78 = .ok (.iload_n 2, 1) := by decide +kernel
theorem dX11_body_79 : decode cX11_body 79 = .ok (.bipush 11, 2) := by decide +kernel
theorem dX11_body_81 : decode cX11_body 81 = .ok (.bipush 116, 2) := by decide +kernel
theorem dX11_body_83 : decode cX11_body 83 = .ok (.bipush 111, 2) := by decide +kernel
theorem dX11_body_85 : decode cX11_body 85 = .ok (.invokestatic 127, 3) := by decide +kernel
theorem dX11_body_88 : decode cX11_body 88 = .ok (.bipush 11, 2) := by decide +kernel
theorem dX11_body_90 : decode cX11_body 90 = .ok (.invokevirtual 232, 3) := by decide +kernel
theorem dX11_body_93 : decode cX11_body 93 = .ok (.ireturn, 1) := by decide +kernel
theorem dX11_body_94 : decode cX11_body 94 = .ok (.aload_n 0, 1) := by decide +kernel
theorem dX11_body_95 : decode cX11_body 95 = .ok (.iload_n 2, 1) := by decide +kernel
theorem dX11_body_96 : decode cX11_body 96 = .ok (.iconst 1, 1) := by decide +kernel
theorem dX11_body_97 : decode cX11_body 97 = .ok (.iadd, 1) := by decide +kernel
theorem dX11_body_98 : decode cX11_body 98 = .ok (.iconst 0, 1) := by decide +kernel
theorem dX11_body_99 : decode cX11_body 99 = .ok (.bipush 9, 2) := by decide +kernel
theorem dX11_body_101 : decode cX11_body 101 = .ok (.invokevirtual 221, 3) := by decide +kernel
theorem dX11_body_104 : decode cX11_body 104 = .ok (.ireturn, 1) := by decide +kernel
theorem dX11_body_105 : decode cX11_body 105 = .ok (.aload_n 0, 1) := by decide +kernel
theorem dX11_body_106 : decode cX11_body 106 = .ok (.iload_n 2, 1) := by decide +kernel
theorem dX11_body_107 : decode cX11_body 107 = .ok (.iconst 1, 1) := by decide +kernel
theorem dX11_body_108 : decode cX11_body 108 = .ok (.iadd, 1) := by decide +kernel
theorem dX11_body_109 : decode cX11_body 109 = .ok (.iconst 0, 1) := by decide +kernel
theorem dX11_body_110 : decode cX11_body 110 = .ok (.bipush 11, 2) := by decide +kernel
theorem dX11_body_112 : decode cX11_body 112 = .ok (.invokevirtual 221, 3) := by decide +kernel
theorem dX11_body_115 : decode cX11_body 115 = .ok (.ireturn, 1) := by decide +kernel
theorem dX11_body_116 : decode cX11_body 116 = .ok (.aload_n 0, 1) := by decide +kernel
theorem dX11_body_117 : decode cX11_body 117 = .ok (.iload_n 2, 1) := by decide +kernel
theorem dX11_body_118 : decode cX11_body 118 = .ok (.iconst 1, 1) := by decide +kernel
theorem dX11_body_119 : decode cX11_body 119 = .ok (.iadd, 1) := by decide +kernel
theorem dX11_body_120 : decode cX11_body 120 = .ok (.iconst 0, 1) := by decide +kernel
theorem dX11_body_121 : decode cX11_body 121 = .ok (.bipush 11, 2) := by decide +kernel
theorem dX11_body_123 : decode cX11_body 123 = .ok (.invokevirtual 221, 3) := by decide +kernel
theorem dX11_body_126 : decode cX11_body 126 = .ok (.ireturn, 1) := by decide +kernel
theorem dX11_body_127 : decode cX11_body 127 = .ok (.aload_n 0, 1) := by decide +kernel
theorem dX11_body_128 : decode cX11_body 128 = .ok (.iload_n 2, 1) := by decide +kernel
theorem dX11_body_129 : decode cX11_body 129 = .ok (.iconst 1, 1) := by decide +kernel
theorem dX11_body_130 : decode cX11_body 130 = .ok (.iadd, 1) := by decide +kernel
theorem dX11_body_131 : decode cX11_body 131 = .ok (.iconst 1, 1) := by decide +kernel
theorem dX11_body_132 : decode cX11_body 132 = .ok (.bipush 9, 2) := by decide +kernel
theorem dX11_body_134 : decode cX11_body 134 = .ok (.invokevirtual 221, 3) := by decide +kernel
theorem dX11_body_137 : decode cX11_body 137 = .ok (.ireturn, 1) := by decide +kernel
theorem dX11_body_138 : decode cX11_body 138 = .ok (.aload_n 0, 1) := by decide +kernel
theorem dX11_body_139 : decode cX11_body 139 = .ok (.iload_n 2, 1) := by decide +kernel
theorem dX11_body_140 : decode cX11_body 140 = .ok (.iconst 1, 1) := by decide +kernel
theorem dX11_body_141 : decode cX11_body 141 = .ok (.iadd, 1) := by decide +kernel
theorem dX11_body_142 : decode cX11_body 142 = .ok (.iconst 1, 1) := by decide +kernel
theorem dX11_body_143 : decode cX11_body 143 = .ok (.bipush 60, 2) := by decide +kernel
theorem dX11_body_145 : decode cX11_body 145 = .ok (.invokevirtual 221, 3) := by decide +kernel
theorem dX11_body_148 : decode cX11_body 148 = .ok (.ireturn, 1) := by decide +kernel
theorem dX11_body_149 : decode cX11_body 149 = .ok (.aload_n 0, 1) := by decide +kernel
theorem dX11_body_150 : decode cX11_body 150 = .ok (.iload_n 2, 1) := by decide +kernel
theorem dX11_body_151 : decode cX11_body 151 = .ok (.invokevirtual 239, 3) := by decide +kernel
theorem dX11_body_154 : decode cX11_body 154 = .ok (.ireturn, 1) := by decide +kernel
theorem dX11_sortOf_0 : decode cX11_sortOf 0 = .ok (.aload_n 0, 1) := by decide +kernel
theorem dX11_sortOf_1 : decode cX11_sortOf 1 = .ok (.bipush 112, 2) := by decide +kernel
theorem dX11_sortOf_3 : decode cX11_sortOf 3 = .ok (.bipush 114, 2) := by decide +kernel
theorem dX11_sortOf_5 : decode cX11_sortOf 5 = .ok (.bipush 101, 2) := by decide +kernel
theorem dX11_sortOf_7 : decode cX11_sortOf 7 = .ok (.bipush 115, 2) := by decide +kernel
theorem dX11_sortOf_9 : decode cX11_sortOf 9 = .ok (.invokestatic 135, 3) := by decide +kernel
theorem dX11_sortOf_12 : decode cX11_sortOf 12 = .ok (.bipush 115, 2) := by decide +kernel
theorem dX11_sortOf_14 : decode cX11_sortOf 14 = .ok (.bipush 101, 2) := by decide +kernel
theorem dX11_sortOf_16 : decode cX11_sortOf 16 = .ok (.bipush 115, 2) := by decide +kernel
theorem dX11_sortOf_18 : decode cX11_sortOf 18 = .ok (.invokestatic 131, 3) := by decide +kernel
theorem dX11_sortOf_21 : decode cX11_sortOf 21 = .ok (.bipush 7, 2) := by decide +kernel
theorem dX11_sortOf_23 : decode cX11_sortOf 23 = .ok (.invokevirtual 242, 3) := by decide +kernel
theorem dX11_sortOf_26 : decode cX11_sortOf 26 = .ok (.ifCond .eq 5, 3) := by decide +kernel
theorem dX11_sortOf_29 : decode cX11_sortOf 29 = .ok (.iconst 0, 1) := by decide +kernel
theorem dX11_sortOf_30 : decode cX11_sortOf 30 = .ok (.ireturn, 1) := by decide +kernel
theorem dX11_sortOf_31 : decode cX11_sortOf 31 = .ok (.aload_n 0, 1) := by decide +kernel
theorem dX11_sortOf_32 : decode cX11_sortOf 32 = .ok (.bipush 115, 2) := by decide +kernel
theorem dX11_sortOf_34 : decode cX11_sortOf 34 = .ok (.bipush 99, 2) := by decide +kernel
theorem dX11_sortOf_36 : decode cX11_sortOf 36 = .ok (.bipush 111, 2) := by decide +kernel
theorem dX11_sortOf_38 : decode cX11_sortOf 38 = .ok (.bipush 114, 2) := by decide +kernel
theorem dX11_sortOf_40 : decode cX11_sortOf 40 = .ok (.invokestatic 135, 3) := by decide +kernel
theorem dX11_sortOf_43 : decode cX11_sortOf 43 = .ok (.bipush 99, 2) := by decide +kernel
theorem dX11_sortOf_45 : decode cX11_sortOf 45 = .ok (.bipush 104, 2) := by decide +kernel
theorem dX11_sortOf_47 : decode cX11_sortOf 47 = .ok (.bipush 101, 2) := by decide +kernel
theorem dX11_sortOf_49 : decode cX11_sortOf 49 = .ok (.bipush 115, 2) := by decide +kernel
theorem dX11_sortOf_51 : decode cX11_sortOf 51 = .ok (.invokestatic 135, 3) := by decide +kernel
theorem dX11_sortOf_54 : decode cX11_sortOf 54 = .ok (.bipush 8, 2) := by decide +kernel
theorem dX11_sortOf_56 : decode cX11_sortOf 56 = .ok (.invokevirtual 242, 3) := by decide +kernel
theorem dX11_sortOf_59 : decode cX11_sortOf 59 = .ok (.ifCond .eq 5, 3) := by decide +kernel
theorem dX11_sortOf_62 : decode cX11_sortOf 62 = .ok (.iconst 1, 1) := by decide +kernel
theorem dX11_sortOf_63 : decode cX11_sortOf 63 = .ok (.ireturn, 1) := by decide +kernel
theorem dX11_sortOf_64 : decode cX11_sortOf 64 = .ok (.aload_n 0, 1) := by decide +kernel
theorem dX11_sortOf_65 : decode cX11_sortOf 65 = .ok (.bipush 112, 2) := by decide +kernel
theorem dX11_sortOf_67 : decode cX11_sortOf 67 = .ok (.bipush 114, 2) := by decide +kernel
theorem dX11_sortOf_69 : decode cX11_sortOf 69 = .ok (.bipush 105, 2) := by decide +kernel
theorem dX11_sortOf_71 : decode cX11_sortOf 71 = .ok (.bipush 99, 2) := by decide +kernel
theorem dX11_sortOf_73 : decode cX11_sortOf 73 = .ok (.bipush 101, 2) := by decide +kernel
theorem dX11_sortOf_75 : decode cX11_sortOf 75 = .ok (.invokestatic 139, 3) := by decide +kernel
theorem dX11_sortOf_78 : decode cX11_sortOf 78 = .ok (.invokevirtual 195, 3) := by decide +kernel
theorem dX11_sortOf_81 : decode cX11_sortOf 81 = .ok (.ifCond .eq 5, 3) := by decide +kernel
theorem dX11_sortOf_84 : decode cX11_sortOf 84 = .ok (.iconst 2, 1) := by decide +kernel
theorem dX11_sortOf_85 : decode cX11_sortOf 85 = .ok (.ireturn, 1) := by decide +kernel
theorem dX11_sortOf_86 : decode cX11_sortOf 86 = .ok (.aload_n 0, 1) := by decide +kernel
theorem dX11_sortOf_87 : decode cX11_sortOf 87 = .ok (.bipush 112, 2) := by decide +kernel
theorem dX11_sortOf_89 : decode cX11_sortOf 89 = .ok (.bipush 101, 2) := by decide +kernel
theorem dX11_sortOf_91 : decode cX11_sortOf 91 = .ok (.bipush 114, 2) := by decide +kernel
theorem dX11_sortOf_93 : decode cX11_sortOf 93 = .ok (.bipush 115, 2) := by decide +kernel
theorem dX11_sortOf_95 : decode cX11_sortOf 95 = .ok (.bipush 111, 2) := by decide +kernel
theorem dX11_sortOf_97 : decode cX11_sortOf 97 = .ok (.bipush 110, 2) := by decide +kernel
theorem dX11_sortOf_99 : decode cX11_sortOf 99 = .ok (.invokestatic 191, 3) := by decide +kernel
theorem dX11_sortOf_102 : decode cX11_sortOf 102 = .ok (.invokevirtual 195, 3) := by decide +kernel
theorem dX11_sortOf_105 : decode cX11_sortOf 105 = .ok (.ifCond .eq 5, 3) := by decide +kernel
theorem dX11_sortOf_108 : decode cX11_sortOf 108 = .ok (.iconst 3, 1) := by decide +kernel
theorem dX11_sortOf_109 : decode cX11_sortOf 109 = .ok (.ireturn, 1) := by decide +kernel
theorem dX11_sortOf_110 : decode cX11_sortOf 110 = .ok (.aload_n 0, 1) := by decide +kernel
theorem dX11_sortOf_111 : decode cX11_sortOf 111 = .ok (.bipush 99, 2) := by decide +kernel
theorem dX11_sortOf_113 : decode cX11_sortOf 113 = .ok (.bipush 114, 2) := by decide +kernel
theorem dX11_sortOf_115 : decode cX11_sortOf 115 = .ok (.bipush 101, 2) := by decide +kernel
theorem dX11_sortOf_117 : decode cX11_sortOf 117 = .ok (.bipush 97, 2) := by decide +kernel
theorem dX11_sortOf_119 : decode cX11_sortOf 119 = .ok (.bipush 115, 2) := by decide +kernel
theorem dX11_sortOf_121 : decode cX11_sortOf 121 = .ok (.bipush 101, 2) := by decide +kernel
theorem dX11_sortOf_123 : decode cX11_sortOf 123 = .ok (.invokestatic 191, 3) := by decide +kernel
theorem dX11_sortOf_126 : decode cX11_sortOf 126 = .ok (.invokevirtual 195, 3) := by decide +kernel
theorem dX11_sortOf_129 : decode cX11_sortOf 129 = .ok (.ifCond .eq 5, 3) := by decide +kernel
theorem dX11_sortOf_132 : decode cX11_sortOf 132 = .ok (.iconst 4, 1) := by decide +kernel
theorem dX11_sortOf_133 : decode cX11_sortOf 133 = .ok (.ireturn, 1) := by decide +kernel
theorem dX11_sortOf_134 : decode cX11_sortOf 134 = .ok (.aload_n 0, 1) := by decide +kernel
theorem dX11_sortOf_135 : decode cX11_sortOf 135 = .ok (.bipush 116, 2) := by decide +kernel
theorem dX11_sortOf_137 : decode cX11_sortOf 137 = .ok (.bipush 105, 2) := by decide +kernel
theorem dX11_sortOf_139 : decode cX11_sortOf 139 = .ok (.bipush 101, 2) := by decide +kernel
theorem dX11_sortOf_141 : decode cX11_sortOf 141 = .ok (.invokestatic 131, 3) := by decide +kernel
theorem dX11_sortOf_144 : decode cX11_sortOf 144 = .ok (.invokevirtual 195, 3) := by decide +kernel
theorem dX11_sortOf_147 : decode cX11_sortOf 147 = .ok (.ifCond .eq 5, 3) := by decide +kernel
theorem dX11_sortOf_150 : decode cX11_sortOf 150 = .ok (.iconst 5, 1) := by decide +kernel
theorem dX11_sortOf_151 : decode cX11_sortOf 151 = .ok (.ireturn, 1) := by decide +kernel
theorem dX11_sortOf_152 : decode cX11_sortOf 152 = .ok (.aload_n 0, 1) := by decide +kernel
theorem dX11_sortOf_153 : decode cX11_sortOf 153 = .ok (.bipush 104, 2) := by decide +kernel
theorem dX11_sortOf_155 : decode cX11_sortOf 155 = .ok (.bipush 101, 2) := by decide +kernel
theorem dX11_sortOf_157 : decode cX11_sortOf 157 = .ok (.bipush 97, 2) := by decide +kernel
theorem dX11_sortOf_159 : decode cX11_sortOf 159 = .ok (.bipush 116, 2) := by decide +kernel
theorem dX11_sortOf_161 : decode cX11_sortOf 161 = .ok (.invokestatic 135, 3) := by decide +kernel
theorem dX11_sortOf_164 : decode cX11_sortOf 164 = .ok (.invokevirtual 195, 3) := by decide +kernel
theorem dX11_sortOf_167 : decode cX11_sortOf 167 = .ok (.ifCond .eq 6, 3) := by decide +kernel
theorem dX11_sortOf_170 : decode cX11_sortOf 170 = .ok (.bipush 6, 2) := by decide +kernel
theorem dX11_sortOf_172 : decode cX11_sortOf 172 = .ok (.ireturn, 1) := by decide +kernel
theorem dX11_sortOf_173 : decode cX11_sortOf 173 = .ok (.aload_n 0, 1) := by decide +kernel
theorem dX11_sortOf_174 : decode cX11_sortOf 174 = .ok (.bipush 112, 2) := by decide +kernel
theorem dX11_sortOf_176 : decode cX11_sortOf 176 = .ok (.bipush 114, 2) := by decide +kernel
theorem dX11_sortOf_178 : decode cX11_sortOf 178 = .ok (.bipush 101, 2) := by decide +kernel
theorem dX11_sortOf_180 : decode cX11_sortOf 180 = .ok (.bipush 115, 2) := by decide +kernel
theorem dX11_sortOf_182 : decode cX11_sortOf 182 = .ok (.bipush 115, 2) := by decide +kernel
theorem dX11_sortOf_184 : decode cX11_sortOf 184 = .ok (.invokestatic 139, 3) := by decide +kernel
theorem dX11_sortOf_187 : decode cX11_sortOf 187 = .ok (.invokevirtual 195, 3) := by decide +kernel
theorem dX11_sortOf_190 : decode cX11_sortOf 190 = .ok (.ifCond .eq 6, 3) := by decide +kernel
theorem dX11_sortOf_193 : decode cX11_sortOf 193 = .ok (.bipush 7, 2) := by decide +kernel
theorem dX11_sortOf_195 : decode cX11_sortOf 195 = .ok (.ireturn, 1) := by decide +kernel
theorem dX11_sortOf_196 : decode cX11_sortOf 196 = .ok (.aload_n 0, 1) := by decide +kernel
theorem dX11_sortOf_197 : decode cX11_sortOf 197 = .ok (.bipush 112, 2) := by decide +kernel
theorem dX11_sortOf_199 : decode cX11_sortOf 199 = .ok (.bipush 97, 2) := by decide +kernel
theorem dX11_sortOf_201 : decode cX11_sortOf 201 = .ok (.bipush 116, 2) := by decide +kernel
theorem dX11_sortOf_203 : decode cX11_sortOf 203 = .ok (.bipush 116, 2) := by decide +kernel
theorem dX11_sortOf_205 : decode cX11_sortOf 205 = .ok (.invokestatic 135, 3) := by decide +kernel
theorem dX11_sortOf_208 : decode cX11_sortOf 208 = .ok (.bipush 101, 2) := by decide +kernel
theorem dX11_sortOf_210 : decode cX11_sortOf 210 = .ok (.bipush 114, 2) := by decide +kernel
theorem dX11_sortOf_212 : decode cX11_sortOf 212 = .ok (.bipush 110, 2) := by decide +kernel
theorem dX11_sortOf_214 : decode cX11_sortOf 214 = .ok (.invokestatic 131, 3) := by decide +kernel
theorem dX11_sortOf_217 : decode cX11_sortOf 217 = .ok (.bipush 7, 2) := by decide +kernel
theorem dX11_sortOf_219 : decode cX11_sortOf 219 = .ok (.invokevirtual 242, 3) := by decide +kernel
theorem dX11_sortOf_222 : decode cX11_sortOf 222 = .ok (.ifCond .eq 6, 3) := by decide +kernel
theorem dX11_sortOf_225 : decode cX11_sortOf 225 = .ok (.bipush 8, 2) := by decide +kernel
theorem dX11_sortOf_227 : decode cX11_sortOf 227 = .ok (.ireturn, 1) := by decide +kernel
theorem dX11_sortOf_228 : decode cX11_sortOf 228 = .ok (.aload_n 0, 1) := by decide +kernel
theorem dX11_sortOf_229 : decode cX11_sortOf 229 = .ok (.bipush 100, 2) := by decide +kernel
theorem dX11_sortOf_231 : decode cX11_sortOf 231 = .ok (.bipush 97, 2) := by decide +kernel
theorem dX11_sortOf_233 : decode cX11_sortOf 233 = .ok (.bipush 109, 2) := by decide +kernel
theorem dX11_sortOf_235 : decode cX11_sortOf 235 = .ok (.bipush 112, 2) := by decide +kernel
theorem dX11_sortOf_237 : decode cX11_sortOf 237 = .ok (.invokestatic 135, 3) := by decide +kernel
theorem dX11_sortOf_240 : decode cX11_sortOf 240 = .ok (.invokevirtual 195, 3) := by decide +kernel
theorem dX11_sortOf_243 : decode cX11_sortOf 243 = .ok (.ifCond .eq 8, 3) := by decide +kernel
theorem dX11_sortOf_246 : decode cX11_sortOf 246 = .ok (.bipush 9, 2) := by decide +kernel
theorem dX11_sortOf_248 : decode cX11_sortOf 248 = .ok (.goto 27, 3) := by decide +kernel
theorem dX11_sortOf_251 : decode cX11_sortOf 251 = .ok (.aload_n 0, 1) := by decide +kernel
theorem dX11_sortOf_252 : decode cX11_sortOf 252 = .ok (.bipush 104, 2) := by decide +kernel
theorem dX11_sortOf_254 : decode cX11_sortOf 254 = .ok (.bipush 111, 2) := by decide +kernel
theorem dX11_sortOf_256 : decode cX11_sortOf 256 = .ok (.bipush 117, 2) := by decide +kernel
theorem dX11_sortOf_258 : decode cX11_sortOf 258 = .ok (.bipush 114, 2) := by decide +kernel
theorem dX11_sortOf_260 : decode cX11_sortOf 260 = .ok (.invokestatic 135, 3) := by decide +kernel
theorem dX11_sortOf_263 : decode cX11_sortOf 263 = .ok (.invokevirtual 195, 3) := by decide +kernel
theorem dX11_sortOf_266 : decode cX11_sortOf 266 = .ok (.ifCond .eq 8, 3) := by decide +kernel
theorem dX11_sortOf_269 : decode cX11_sortOf 269 = .ok (.bipush 10, 2) := by decide +kernel
theorem dX11_sortOf_271 : decode cX11_sortOf 271 = .ok (.goto 4, 3) := by decide +kernel
theorem dX11_sortOf_274 : decode cX11_sortOf 274 = .ok (.iconst (-1), 1) := by decide +kernel
theorem dX11_sortOf_275 : decode cX11_sortOf 275 = .ok (.ireturn, 1) := by decide +kernel
theorem dX11_clause_0 : decode cX11_clause 0 = .ok (.aload_n 0, 1) := by decide +kernel
theorem dX11_clause_1 : decode cX11_clause 1 = .ok (.invokevirtual 246, 3) := by decide +kernel
theorem dX11_clause_4 : decode cX11_clause 4 = .ok (.istore_n 1, 1) := by decide +kernel
theorem dX11_clause_5 : decode cX11_clause 5 = .ok (.iload_n 1, 1) := by decide +kernel
theorem dX11_clause_6 : decode cX11_clause 6 = .ok (.ifCond .ge 5, 3) := by decide +kernel
theorem dX11_clause_9 : decode cX11_clause 9 = .ok (.iconst 1, 1) := by decide +kernel
theorem dX11_clause_10 : decode cX11_clause 10 = .ok (.ireturn, 1) := by decide +kernel
theorem dX11_clause_11 : decode cX11_clause 11 = .ok (.iload_n 1, 1) := by decide +kernel
theorem dX11_clause_12 : decode cX11_clause 12 = .ok (.iconst 2, 1) := by decide +kernel
theorem dX11_clause_13 : decode cX11_clause 13 = .ok (.if_icmp .gt 16, 3) := by decide +kernel
theorem dX11_clause_16 : decode cX11_clause 16 = .ok (.aload_n 0, 1) := by decide +kernel
theorem dX11_clause_17 : decode cX11_clause 17 = .ok (.getfield 249, 3) := by decide +kernel
theorem dX11_clause_20 : decode cX11_clause 20 = .ok (.iload_n 1, 1) := by decide +kernel
theorem dX11_clause_21 : decode cX11_clause 21 = .ok (.invokestatic 84, 3) := by decide +kernel
theorem dX11_clause_24 : decode cX11_clause 24 = .ok (.ifCond .eq 5, 3) := by decide +kernel
theorem dX11_clause_27 : decode cX11_clause 27 = .ok (.iconst 4, 1) := by decide +kernel
theorem dX11_clause_28 : decode cX11_clause 28 = .ok (.ireturn, 1) := by decide +kernel
theorem dX11_clause_29 : decode cX11_clause 29 = .ok (.aload_n 0, 1) := by decide +kernel
theorem dX11_clause_30 : decode cX11_clause 30 = .ok (.getfield 16, 3) := by decide +kernel
theorem dX11_clause_33 : decode cX11_clause 33 = .ok (.aload_n 0, 1) := by decide +kernel
theorem dX11_clause_34 : decode cX11_clause 34 = .ok (.getfield 143, 3) := by decide +kernel
theorem dX11_clause_37 : decode cX11_clause 37 = .ok (.iaload, 1) := by decide +kernel
theorem dX11_clause_38 : decode cX11_clause 38 = .ok (.istore_n 2, 1) := by decide +kernel
theorem dX11_clause_39 : decode cX11_clause 39 = .ok (.iload_n 2, 1) := by decide +kernel
theorem dX11_clause_40 : decode cX11_clause 40 = .ok (.bipush 24, 2) := by decide +kernel
theorem dX11_clause_42 : decode cX11_clause 42 = .ok (.if_icmp .ne 6, 3) := by decide +kernel
theorem dX11_clause_45 : decode cX11_clause 45 = .ok (.bipush 6, 2) := by decide +kernel
theorem dX11_clause_47 : decode cX11_clause 47 = .ok (.ireturn, 1) := by decide +kernel
theorem dX11_clause_48 : decode cX11_clause 48 = .ok (.iload_n 1, 1) := by decide +kernel
theorem dX11_clause_49 : decode cX11_clause 49 = .ok (.iconst 2, 1) := by decide +kernel
theorem dX11_clause_50 : decode cX11_clause 50 = .ok (.if_icmp .gt 15, 3) := by decide +kernel
theorem dX11_clause_53 : decode cX11_clause 53 = .ok (.aload_n 0, 1) := by decide +kernel
theorem dX11_clause_54 : decode cX11_clause 54 = .ok (.dup, 1) := by decide +kernel
theorem dX11_clause_55 : decode cX11_clause 55 = .ok (.getfield 249, 3) := by decide +kernel
theorem dX11_clause_58 : decode cX11_clause 58 = .ok (.iconst 1, 1) := by decide +kernel
theorem dX11_clause_59 : decode cX11_clause 59 = .ok (.iload_n 1, 1) := by decide +kernel
theorem dX11_clause_60 : decode cX11_clause 60 = .ok (.ishl, 1) := by decide +kernel
theorem dX11_clause_61 : decode cX11_clause 61 = .ok (.ior, 1) := by decide +kernel
theorem dX11_clause_62 : decode cX11_clause 62 = .ok (.putfield 249, 3) := by decide +kernel
theorem dX11_clause_65 : decode cX11_clause 65 = .ok (.aload_n 0, 1) := by decide +kernel
theorem dX11_clause_66 : decode cX11_clause 66 = .ok (.iload_n 1, 1) := by decide +kernel
theorem dX11_clause_67 : decode cX11_clause 67 = .ok (.putfield 149, 3) := by decide +kernel
theorem dX11_clause_70 : decode cX11_clause 70 = .ok (.aload_n 0, 1) := by decide +kernel
theorem dX11_clause_71 : decode cX11_clause 71 = .ok (.invokevirtual 172, 3) := by decide +kernel
theorem dX11_clause_74 : decode cX11_clause 74 = .ok (.aload_n 0, 1) := by decide +kernel
theorem dX11_clause_75 : decode cX11_clause 75 = .ok (.getfield 143, 3) := by decide +kernel
theorem dX11_clause_78 : decode cX11_clause 78 = .ok (.iconst 1, 1) := by decide +kernel
theorem dX11_clause_79 : decode cX11_clause 79 = .ok (.iadd, 1) := by decide +kernel
theorem dX11_clause_80 : decode cX11_clause 80 = .ok (.iconst 4, 1) := by decide +kernel
theorem dX11_clause_81 : decode cX11_clause 81 = .ok (.iload_n 2, 1) := by decide +kernel
theorem dX11_clause_82 : decode cX11_clause 82 = .ok (.imul, 1) := by decide +kernel
theorem dX11_clause_83 : decode cX11_clause 83 = .ok (.iadd, 1) := by decide +kernel
theorem dX11_clause_84 : decode cX11_clause 84 = .ok (.istore_n 3, 1) := by decide +kernel
theorem dX11_clause_85 : decode cX11_clause 85 = .ok (.aload_n 0, 1) := by decide +kernel
theorem dX11_clause_86 : decode cX11_clause 86 = .ok (.getfield 16, 3) := by decide +kernel
theorem dX11_clause_89 : decode cX11_clause 89 = .ok (.iload_n 3, 1) := by decide +kernel
theorem dX11_clause_90 : decode cX11_clause 90 = .ok (.iload_n 1, 1) := by decide +kernel
theorem dX11_clause_91 : decode cX11_clause 91 = .ok (.iastore, 1) := by decide +kernel
theorem dX11_clause_92 : decode cX11_clause 92 = .ok (.aload_n 0, 1) := by decide +kernel
theorem dX11_clause_93 : decode cX11_clause 93 = .ok (.iload_n 1, 1) := by decide +kernel
theorem dX11_clause_94 : decode cX11_clause 94 = .ok (.iload_n 3, 1) := by decide +kernel
theorem dX11_clause_95 : decode cX11_clause 95 = .ok (.invokevirtual 252, 3) := by decide +kernel
theorem dX11_clause_98 : decode cX11_clause 98 = .ok (.istore 4, 2) := by decide +kernel
theorem dX11_clause_100 : decode cX11_clause 100 = .ok (.iload 4, 2) := by decide +kernel
theorem dX11_clause_102 : decode cX11_clause 102 = .ok (.ifCond .eq 6, 3) := by decide +kernel
theorem dX11_clause_105 : decode cX11_clause 105 = .ok (.iload 4, 2) := by decide +kernel
theorem dX11_clause_107 : decode cX11_clause 107 = .ok (.ireturn, 1) := by decide +kernel
theorem dX11_clause_108 : decode cX11_clause 108 = .ok (.aload_n 0, 1) := by decide +kernel
theorem dX11_clause_109 : decode cX11_clause 109 = .ok (.getfield 16, 3) := by decide +kernel
theorem dX11_clause_112 : decode cX11_clause 112 = .ok (.aload_n 0, 1) := by decide +kernel
theorem dX11_clause_113 : decode cX11_clause 113 = .ok (.getfield 143, 3) := by decide +kernel
theorem dX11_clause_116 : decode cX11_clause 116 = .ok (.dup2, 1) := by decide +kernel
theorem dX11_clause_117 : decode cX11_clause 117 = .ok (.iaload, 1) := by decide +kernel
theorem dX11_clause_118 : decode cX11_clause 118 = .ok (.iconst 1, 1) := by decide +kernel
theorem dX11_clause_119 : decode cX11_clause 119 = .ok (.iadd, 1) := by decide +kernel
theorem dX11_clause_120 : decode cX11_clause 120 = .ok (.iastore, 1) := by decide +kernel
theorem dX11_clause_121 : decode cX11_clause 121 = .ok (.aload_n 0, 1) := by decide +kernel
theorem dX11_clause_122 : decode cX11_clause 122 = .ok (.getfield 105, 3) := by decide +kernel
theorem dX11_clause_125 : decode cX11_clause 125 = .ok (.bipush 59, 2) := by decide +kernel
theorem dX11_clause_127 : decode cX11_clause 127 = .ok (.if_icmp .eq 5, 3) := by decide +kernel
theorem dX11_clause_130 : decode cX11_clause 130 = .ok (.iconst 1, 1) := by decide +kernel
theorem dX11_clause_131 : decode cX11_clause 131 = .ok (.ireturn, 1) := by decide +kernel
theorem dX11_clause_132 : decode cX11_clause 132 = .ok (.aload_n 0, 1) := by decide +kernel
theorem dX11_clause_133 : decode cX11_clause 133 = .ok (.invokevirtual 172, 3) := by decide +kernel
theorem dX11_clause_136 : decode cX11_clause 136 = .ok (.iconst 0, 1) := by decide +kernel
theorem dX11_clause_137 : decode cX11_clause 137 = .ok (.ireturn, 1) := by decide +kernel
theorem dX11_readText_0 : decode cX11_readText 0 = .ok (.aload_n 0, 1) := by decide +kernel
theorem dX11_readText_1 : decode cX11_readText 1 = .ok (.sipush 705, 3) := by decide +kernel
theorem dX11_readText_4 : decode cX11_readText 4 = .ok (.aload_n 0, 1) := by decide +kernel
theorem dX11_readText_5 : decode cX11_readText 5 = .ok (.getfield 7, 3) := by decide +kernel
theorem dX11_readText_8 : decode cX11_readText 8 = .ok (.iconst 1, 1) := by decide +kernel
theorem dX11_readText_9 : decode cX11_readText 9 = .ok (.iaload, 1) := by decide +kernel
theorem dX11_readText_10 : decode cX11_readText 10 = .ok (.imul, 1) := by decide +kernel
theorem dX11_readText_11 : decode cX11_readText 11 = .ok (.putfield 143, 3) := by decide +kernel
theorem dX11_readText_14 : decode cX11_readText 14 = .ok (.aload_n 0, 1) := by decide +kernel
theorem dX11_readText_15 : decode cX11_readText 15 = .ok (.getfield 16, 3) := by decide +kernel
theorem dX11_readText_18 : decode cX11_readText 18 = .ok (.aload_n 0, 1) := by decide +kernel
theorem dX11_readText_19 : decode cX11_readText 19 = .ok (.getfield 143, 3) := by decide +kernel
theorem dX11_readText_22 : decode cX11_readText 22 = .ok (.iconst 0, 1) := by decide +kernel
theorem dX11_readText_23 : decode cX11_readText 23 = .ok (.iastore, 1) := by decide +kernel
theorem dX11_readText_24 : decode cX11_readText 24 = .ok (.aload_n 0, 1) := by decide +kernel
theorem dX11_readText_25 : decode cX11_readText 25 = .ok (.iconst 0, 1) := by decide +kernel
theorem dX11_readText_26 : decode cX11_readText 26 = .ok (.putfield 146, 3) := by decide +kernel
theorem dX11_readText_29 : decode cX11_readText 29 = .ok (.aload_n 0, 1) := by decide +kernel
theorem dX11_readText_30 : decode cX11_readText 30 = .ok (.iconst 0, 1) := by decide +kernel
theorem dX11_readText_31 : decode cX11_readText 31 = .ok (.putfield 249, 3) := by decide +kernel
theorem dX11_readText_34 : decode cX11_readText 34 = .ok (.aload_n 0, 1) := by decide +kernel
theorem dX11_readText_35 : decode cX11_readText 35 = .ok (.iconst 0, 1) := by decide +kernel
theorem dX11_readText_36 : decode cX11_readText 36 = .ok (.putfield 95, 3) := by decide +kernel
theorem dX11_readText_39 : decode cX11_readText 39 = .ok (.aload_n 0, 1) := by decide +kernel
theorem dX11_readText_40 : decode cX11_readText 40 = .ok (.invokevirtual 172, 3) := by decide +kernel
theorem dX11_readText_43 : decode cX11_readText 43 = .ok (.aload_n 0, 1) := by decide +kernel
theorem dX11_readText_44 : decode cX11_readText 44 = .ok (.getfield 105, 3) := by decide +kernel
theorem dX11_readText_47 : decode cX11_readText 47 = .ok (.ifCond .eq 17, 3) := by decide +kernel
theorem dX11_readText_50 : decode cX11_readText 50 = .ok (.aload_n 0, 1) := by decide +kernel
theorem dX11_readText_51 : decode cX11_readText 51 = .ok (.invokevirtual 255, 3) := by decide +kernel
theorem dX11_readText_54 : decode cX11_readText 54 = .ok (.istore_n 1, 1) := by decide +kernel
theorem dX11_readText_55 : decode cX11_readText 55 = .ok (.iload_n 1, 1) := by decide +kernel
theorem dX11_readText_56 : decode cX11_readText 56 = .ok (.ifCond .eq 5, 3) := by decide +kernel
theorem dX11_readText_59 : decode cX11_readText 59 = .ok (.iload_n 1, 1) := by decide +kernel
theorem dX11_readText_60 : decode cX11_readText 60 = .ok (.ireturn, 1) := by decide +kernel
theorem dX11_readText_61 : decode cX11_readText 61 = .ok (.goto (-18), 3) := by decide +kernel
theorem dX11_readText_64 : decode cX11_readText 64 = .ok (.iconst 0, 1) := by decide +kernel
theorem dX11_readText_65 : decode cX11_readText 65 = .ok (.ireturn, 1) := by decide +kernel
theorem dX11_text_0 : decode cX11_text 0 = .ok (.aload_n 0, 1) := by decide +kernel
theorem dX11_text_1 : decode cX11_text 1 = .ok (.getfield 7, 3) := by decide +kernel
theorem dX11_text_4 : decode cX11_text 4 = .ok (.iconst 1, 1) := by decide +kernel
theorem dX11_text_5 : decode cX11_text 5 = .ok (.iaload, 1) := by decide +kernel
theorem dX11_text_6 : decode cX11_text 6 = .ok (.iconst 4, 1) := by decide +kernel
theorem dX11_text_7 : decode cX11_text 7 = .ok (.if_icmp .ne 5, 3) := by decide +kernel
theorem dX11_text_10 : decode cX11_text 10 = .ok (.iconst (-1), 1) := by decide +kernel
theorem dX11_text_11 : decode cX11_text 11 = .ok (.ireturn, 1) := by decide +kernel
theorem dX11_text_12 : decode cX11_text 12 = .ok (.aload_n 0, 1) := by decide +kernel
theorem dX11_text_13 : decode cX11_text 13 = .ok (.aload_n 0, 1) := by decide +kernel
theorem dX11_text_14 : decode cX11_text 14 = .ok (.invokevirtual 258, 3) := by decide +kernel
theorem dX11_text_17 : decode cX11_text 17 = .ok (.putfield 22, 3) := by decide +kernel
theorem dX11_text_20 : decode cX11_text 20 = .ok (.aload_n 0, 1) := by decide +kernel
theorem dX11_text_21 : decode cX11_text 21 = .ok (.aload_n 0, 1) := by decide +kernel
theorem dX11_text_22 : decode cX11_text 22 = .ok (.getfield 22, 3) := by decide +kernel
theorem dX11_text_25 : decode cX11_text 25 = .ok (.ifCond .ne 7, 3) := by decide +kernel
theorem dX11_text_28 : decode cX11_text 28 = .ok (.iconst (-1), 1) := by decide +kernel
theorem dX11_text_29 : decode cX11_text 29 = .ok (.goto 7, 3) := by decide +kernel
theorem dX11_text_32 : decode cX11_text 32 = .ok (.aload_n 0, 1) := by decide +kernel
theorem dX11_text_33 : decode cX11_text 33 = .ok (.getfield 102, 3) := by decide +kernel
theorem dX11_text_36 : decode cX11_text 36 = .ok (.putfield 26, 3) := by decide +kernel
theorem dX11_text_39 : decode cX11_text 39 = .ok (.aload_n 0, 1) := by decide +kernel
theorem dX11_text_40 : decode cX11_text 40 = .ok (.iconst 0, 1) := by decide +kernel
theorem dX11_text_41 : decode cX11_text 41 = .ok (.putfield 88, 3) := by decide +kernel
theorem dX11_text_44 : decode cX11_text 44 = .ok (.aload_n 0, 1) := by decide +kernel
theorem dX11_text_45 : decode cX11_text 45 = .ok (.getfield 22, 3) := by decide +kernel
theorem dX11_text_48 : decode cX11_text 48 = .ok (.ifCond .eq 5, 3) := by decide +kernel
theorem dX11_text_51 : decode cX11_text 51 = .ok (.iconst (-1), 1) := by decide +kernel
theorem dX11_text_52 : decode cX11_text 52 = .ok (.ireturn, 1) := by decide +kernel
theorem dX11_text_53 : decode cX11_text 53 = .ok (.aload_n 0, 1) := by decide +kernel
theorem dX11_text_54 : decode cX11_text 54 = .ok (.getfield 7, 3) := by decide +kernel
theorem dX11_text_57 : decode cX11_text 57 = .ok (.iconst 1, 1) := by decide +kernel
theorem dX11_text_58 : decode cX11_text 58 = .ok (.dup2, 1) := by decide +kernel
theorem dX11_text_59 : decode cX11_text 59 = .ok (.iaload, 1) := by decide +kernel
theorem dX11_text_60 : decode cX11_text 60 = .ok (.iconst 1, 1) := by decide +kernel
theorem dX11_text_61 : decode cX11_text 61 = .ok (.iadd, 1) := by decide +kernel
theorem dX11_text_62 : decode cX11_text 62 = .ok (.iastore, 1) := by decide +kernel
theorem dX11_text_63 : decode cX11_text 63 = .ok (.aload_n 0, 1) := by decide +kernel
theorem dX11_text_64 : decode cX11_text 64 = .ok (.getfield 7, 3) := by decide +kernel
theorem dX11_text_67 : decode cX11_text 67 = .ok (.iconst 1, 1) := by decide +kernel
theorem dX11_text_68 : decode cX11_text 68 = .ok (.iaload, 1) := by decide +kernel
theorem dX11_text_69 : decode cX11_text 69 = .ok (.iconst 1, 1) := by decide +kernel
theorem dX11_text_70 : decode cX11_text 70 = .ok (.isub, 1) := by decide +kernel
theorem dX11_text_71 : decode cX11_text 71 = .ok (.ireturn, 1) := by decide +kernel
theorem dX11_fault_0 : decode cX11_fault 0 = .ok (.iload_n 1, 1) := by decide +kernel
theorem dX11_fault_1 : decode cX11_fault 1 = .ok (.ifCond .ne 10, 3) := by decide +kernel
theorem dX11_fault_4 : decode cX11_fault 4 = .ok (.aload_n 0, 1) := by decide +kernel
theorem dX11_fault_5 : decode cX11_fault 5 = .ok (.getfield 22, 3) := by decide +kernel
theorem dX11_fault_8 : decode cX11_fault 8 = .ok (.goto 16, 3) := by decide +kernel
theorem dX11_fault_11 : decode cX11_fault 11 = .ok (.iload_n 1, 1) := by decide +kernel
theorem dX11_fault_12 : decode cX11_fault 12 = .ok (.iconst 1, 1) := by decide +kernel
theorem dX11_fault_13 : decode cX11_fault 13 = .ok (.if_icmp .ne 10, 3) := by decide +kernel
theorem dX11_fault_16 : decode cX11_fault 16 = .ok (.aload_n 0, 1) := by decide +kernel
theorem dX11_fault_17 : decode cX11_fault 17 = .ok (.getfield 26, 3) := by decide +kernel
theorem dX11_fault_20 : decode cX11_fault 20 = .ok (.goto 4, 3) := by decide +kernel
theorem dX11_fault_23 : decode cX11_fault 23 = .ok (.iconst (-1), 1) := by decide +kernel
theorem dX11_fault_24 : decode cX11_fault 24 = .ok (.ireturn, 1) := by decide +kernel
theorem dX11_by_0 : decode cX11_by 0 = .ok (.iload_n 1, 1) := by decide +kernel
theorem dX11_by_1 : decode cX11_by 1 = .ok (.iconst (-1), 1) := by decide +kernel
theorem dX11_by_2 : decode cX11_by 2 = .ok (.aload_n 0, 1) := by decide +kernel
theorem dX11_by_3 : decode cX11_by 3 = .ok (.getfield 7, 3) := by decide +kernel
theorem dX11_by_6 : decode cX11_by 6 = .ok (.iconst 1, 1) := by decide +kernel
theorem dX11_by_7 : decode cX11_by 7 = .ok (.iaload, 1) := by decide +kernel
theorem dX11_by_8 : decode cX11_by 8 = .ok (.iconst 1, 1) := by decide +kernel
theorem dX11_by_9 : decode cX11_by 9 = .ok (.isub, 1) := by decide +kernel
theorem dX11_by_10 : decode cX11_by 10 = .ok (.invokestatic 62, 3) := by decide +kernel
theorem dX11_by_13 : decode cX11_by 13 = .ok (.ifCond .ne 5, 3) := by decide +kernel
theorem dX11_by_16 : decode cX11_by 16 = .ok (.iconst 0, 1) := by decide +kernel
theorem dX11_by_17 : decode cX11_by 17 = .ok (.ireturn, 1) := by decide +kernel
theorem dX11_by_18 : decode cX11_by 18 = .ok (.aload_n 0, 1) := by decide +kernel
theorem dX11_by_19 : decode cX11_by 19 = .ok (.getfield 7, 3) := by decide +kernel
theorem dX11_by_22 : decode cX11_by 22 = .ok (.iconst 2, 1) := by decide +kernel
theorem dX11_by_23 : decode cX11_by 23 = .ok (.iload_n 1, 1) := by decide +kernel
theorem dX11_by_24 : decode cX11_by 24 = .ok (.iastore, 1) := by decide +kernel
theorem dX11_by_25 : decode cX11_by 25 = .ok (.iconst 1, 1) := by decide +kernel
theorem dX11_by_26 : decode cX11_by 26 = .ok (.ireturn, 1) := by decide +kernel
theorem dX11_clip_0 : decode cX11_clip 0 = .ok (.lload_n 0, 1) := by decide +kernel
theorem dX11_clip_1 : decode cX11_clip 1 = .ok (.ldc2_w 261, 3) := by decide +kernel
theorem dX11_clip_4 : decode cX11_clip 4 = .ok (.lcmp, 1) := by decide +kernel
theorem dX11_clip_5 : decode cX11_clip 5 = .ok (.ifCond .le 9, 3) := by decide +kernel
theorem dX11_clip_8 : decode cX11_clip 8 = .ok (.ldc2_w 261, 3) := by decide +kernel
theorem dX11_clip_11 : decode cX11_clip 11 = .ok (.goto 18, 3) := by decide +kernel
theorem dX11_clip_14 : decode cX11_clip 14 = .ok (.lload_n 0, 1) := by decide +kernel
theorem dX11_clip_15 : decode cX11_clip 15 = .ok (.ldc2_w 263, 3) := by decide +kernel
theorem dX11_clip_18 : decode cX11_clip 18 = .ok (.lcmp, 1) := by decide +kernel
theorem dX11_clip_19 : decode cX11_clip 19 = .ok (.ifCond .ge 9, 3) := by decide +kernel
theorem dX11_clip_22 : decode cX11_clip 22 = .ok (.ldc2_w 263, 3) := by decide +kernel
theorem dX11_clip_25 : decode cX11_clip 25 = .ok (.goto 4, 3) := by decide +kernel
theorem dX11_clip_28 : decode cX11_clip 28 = .ok (.lload_n 0, 1) := by decide +kernel
theorem dX11_clip_29 : decode cX11_clip 29 = .ok (.lreturn, 1) := by decide +kernel
theorem dX11_two_0 : decode cX11_two 0 = .ok (.iload_n 0, 1) := by decide +kernel
theorem dX11_two_1 : decode cX11_two 1 = .ok (.tableswitch 48 6 8 #[27, 34, 41], 27) := by decide +kernel
theorem dX11_two_28 : decode cX11_two 28 = .ok (.lload_n 1, 1) := by decide +kernel
theorem dX11_two_29 : decode cX11_two 29 = .ok (.lload_n 3, 1) := by decide +kernel
theorem dX11_two_30 : decode cX11_two 30 = .ok (.ladd, 1) := by decide +kernel
theorem dX11_two_31 : decode cX11_two 31 = .ok (.invokestatic 265, 3) := by decide +kernel
theorem dX11_two_34 : decode cX11_two 34 = .ok (.lreturn, 1) := by decide +kernel
theorem dX11_two_35 : decode cX11_two 35 = .ok (.lload_n 1, 1) := by decide +kernel
theorem dX11_two_36 : decode cX11_two 36 = .ok (.lload_n 3, 1) := by decide +kernel
theorem dX11_two_37 : decode cX11_two 37 = .ok (.lsub, 1) := by decide +kernel
theorem dX11_two_38 : decode cX11_two 38 = .ok (.invokestatic 265, 3) := by decide +kernel
theorem dX11_two_41 : decode cX11_two 41 = .ok (.lreturn, 1) := by decide +kernel
theorem dX11_two_42 : decode cX11_two 42 = .ok (.lload_n 1, 1) := by decide +kernel
theorem dX11_two_43 : decode cX11_two 43 = .ok (.lload_n 3, 1) := by decide +kernel
theorem dX11_two_44 : decode cX11_two 44 = .ok (.lmul, 1) := by decide +kernel
theorem dX11_two_45 : decode cX11_two 45 = .ok (.invokestatic 265, 3) := by decide +kernel
theorem dX11_two_48 : decode cX11_two 48 = .ok (.lreturn, 1) := by decide +kernel
theorem dX11_two_49 : decode cX11_two 49 = .ok (.lload_n 3, 1) := by decide +kernel
theorem dX11_two_50 : decode cX11_two 50 = .ok (.lconst 0, 1) := by decide +kernel
theorem dX11_two_51 : decode cX11_two 51 = .ok (.lcmp, 1) := by decide +kernel
theorem dX11_two_52 : decode cX11_two 52 = .ok (.ifCond .ne 7, 3) := by decide +kernel
theorem dX11_two_55 : decode cX11_two 55 = .ok (.lconst 0, 1) := by decide +kernel
theorem dX11_two_56 : decode cX11_two 56 = .ok (.goto 9, 3) := by decide +kernel
theorem dX11_two_59 : decode cX11_two 59 = .ok (.lload_n 1, 1) := by decide +kernel
theorem dX11_two_60 : decode cX11_two 60 = .ok (.lload_n 3, 1) := by decide +kernel
theorem dX11_two_61 : decode cX11_two 61 = .ok (.ldiv, 1) := by decide +kernel
theorem dX11_two_62 : decode cX11_two 62 = .ok (.invokestatic 265, 3) := by decide +kernel
theorem dX11_two_65 : decode cX11_two 65 = .ok (.lreturn, 1) := by decide +kernel
theorem dX11_isAsked_0 : decode cX11_isAsked 0 = .ok (.iload_n 0, 1) := by decide +kernel
theorem dX11_isAsked_1 : decode cX11_isAsked 1 = .ok (.bipush 10, 2) := by decide +kernel
theorem dX11_isAsked_3 : decode cX11_isAsked 3 = .ok (.if_icmp .ne 17, 3) := by decide +kernel
theorem dX11_isAsked_6 : decode cX11_isAsked 6 = .ok (.lload_n 1, 1) := by decide +kernel
theorem dX11_isAsked_7 : decode cX11_isAsked 7 = .ok (.lload_n 3, 1) := by decide +kernel
theorem dX11_isAsked_8 : decode cX11_isAsked 8 = .ok (.lcmp, 1) := by decide +kernel
theorem dX11_isAsked_9 : decode cX11_isAsked 9 = .ok (.ifCond .ge 7, 3) := by decide +kernel
theorem dX11_isAsked_12 : decode cX11_isAsked 12 = .ok (.iconst 1, 1) := by decide +kernel
theorem dX11_isAsked_13 : decode cX11_isAsked 13 = .ok (.goto 98, 3) := by decide +kernel
theorem dX11_isAsked_16 : decode cX11_isAsked 16 = .ok (.iconst 0, 1) := by decide +kernel
theorem dX11_isAsked_17 : decode cX11_isAsked 17 = .ok (.goto 94, 3) := by decide +kernel
theorem dX11_isAsked_20 : decode cX11_isAsked 20 = .ok (.iload_n 0, 1) := by decide +kernel
theorem dX11_isAsked_21 : decode cX11_isAsked 21 = .ok (.bipush 11, 2) := by decide +kernel
theorem dX11_isAsked_23 : decode cX11_isAsked 23 = .ok (.if_icmp .ne 17, 3) := by decide +kernel
theorem dX11_isAsked_26 : decode cX11_isAsked 26 = .ok (.lload_n 1, 1) := by decide +kernel
theorem dX11_isAsked_27 : decode cX11_isAsked 27 = .ok (.lload_n 3, 1) := by decide +kernel
theorem dX11_isAsked_28 : decode cX11_isAsked 28 = .ok (.lcmp, 1) := by decide +kernel
theorem dX11_isAsked_29 : decode cX11_isAsked 29 = .ok (.ifCond .gt 7, 3) := by decide +kernel
theorem dX11_isAsked_32 : decode cX11_isAsked 32 = .ok (.iconst 1, 1) := by decide +kernel
theorem dX11_isAsked_33 : decode cX11_isAsked 33 = .ok (.goto 78, 3) := by decide +kernel
theorem dX11_isAsked_36 : decode cX11_isAsked 36 = .ok (.iconst 0, 1) := by decide +kernel
theorem dX11_isAsked_37 : decode cX11_isAsked 37 = .ok (.goto 74, 3) := by decide +kernel
theorem dX11_isAsked_40 : decode cX11_isAsked 40 = .ok (.iload_n 0, 1) := by decide +kernel
theorem dX11_isAsked_41 : decode cX11_isAsked 41 = .ok (.bipush 12, 2) := by decide +kernel
theorem dX11_isAsked_43 : decode cX11_isAsked 43 = .ok (.if_icmp .ne 17, 3) := by decide +kernel
theorem dX11_isAsked_46 : decode cX11_isAsked 46 = .ok (.lload_n 1, 1) := by decide +kernel
theorem dX11_isAsked_47 : decode cX11_isAsked 47 = .ok (.lload_n 3, 1) := by decide +kernel
theorem dX11_isAsked_48 : decode cX11_isAsked 48 = .ok (.lcmp, 1) := by decide +kernel
theorem dX11_isAsked_49 : decode cX11_isAsked 49 = .ok (.ifCond .le 7, 3) := by decide +kernel
theorem dX11_isAsked_52 : decode cX11_isAsked 52 = .ok (.iconst 1, 1) := by decide +kernel
theorem dX11_isAsked_53 : decode cX11_isAsked 53 = .ok (.goto 58, 3) := by decide +kernel
theorem dX11_isAsked_56 : decode cX11_isAsked 56 = .ok (.iconst 0, 1) := by decide +kernel
theorem dX11_isAsked_57 : decode cX11_isAsked 57 = .ok (.goto 54, 3) := by decide +kernel
theorem dX11_isAsked_60 : decode cX11_isAsked 60 = .ok (.iload_n 0, 1) := by decide +kernel
theorem dX11_isAsked_61 : decode cX11_isAsked 61 = .ok (.bipush 13, 2) := by decide +kernel
theorem dX11_isAsked_63 : decode cX11_isAsked 63 = .ok (.if_icmp .ne 17, 3) := by decide +kernel
theorem dX11_isAsked_66 : decode cX11_isAsked 66 = .ok (.lload_n 1, 1) := by decide +kernel
theorem dX11_isAsked_67 : decode cX11_isAsked 67 = .ok (.lload_n 3, 1) := by decide +kernel
theorem dX11_isAsked_68 : decode cX11_isAsked 68 = .ok (.lcmp, 1) := by decide +kernel
theorem dX11_isAsked_69 : decode cX11_isAsked 69 = .ok (.ifCond .lt 7, 3) := by decide +kernel
theorem dX11_isAsked_72 : decode cX11_isAsked 72 = .ok (.iconst 1, 1) := by decide +kernel
theorem dX11_isAsked_73 : decode cX11_isAsked 73 = .ok (.goto 38, 3) := by decide +kernel
theorem dX11_isAsked_76 : decode cX11_isAsked 76 = .ok (.iconst 0, 1) := by decide +kernel
theorem dX11_isAsked_77 : decode cX11_isAsked 77 = .ok (.goto 34, 3) := by decide +kernel
theorem dX11_isAsked_80 : decode cX11_isAsked 80 = .ok (.iload_n 0, 1) := by decide +kernel
theorem dX11_isAsked_81 : decode cX11_isAsked 81 = .ok (.bipush 14, 2) := by decide +kernel
theorem dX11_isAsked_83 : decode cX11_isAsked 83 = .ok (.if_icmp .ne 17, 3) := by decide +kernel
theorem dX11_isAsked_86 : decode cX11_isAsked 86 = .ok (.lload_n 1, 1) := by decide +kernel
theorem dX11_isAsked_87 : decode cX11_isAsked 87 = .ok (.lload_n 3, 1) := by decide +kernel
theorem dX11_isAsked_88 : decode cX11_isAsked 88 = .ok (.lcmp, 1) := by decide +kernel
theorem dX11_isAsked_89 : decode cX11_isAsked 89 = .ok (.ifCond .ne 7, 3) := by decide +kernel
theorem dX11_isAsked_92 : decode cX11_isAsked 92 = .ok (.iconst 1, 1) := by decide +kernel
theorem dX11_isAsked_93 : decode cX11_isAsked 93 = .ok (.goto 18, 3) := by decide +kernel
theorem dX11_isAsked_96 : decode cX11_isAsked 96 = .ok (.iconst 0, 1) := by decide +kernel
theorem dX11_isAsked_97 : decode cX11_isAsked 97 = .ok (.goto 14, 3) := by decide +kernel
theorem dX11_isAsked_100 : decode cX11_isAsked 100 = .ok (.lload_n 1, 1) := by decide +kernel
theorem dX11_isAsked_101 : decode cX11_isAsked 101 = .ok (.lload_n 3, 1) := by decide +kernel
theorem dX11_isAsked_102 : decode cX11_isAsked 102 = .ok (.lcmp, 1) := by decide +kernel
theorem dX11_isAsked_103 : decode cX11_isAsked 103 = .ok (.ifCond .eq 7, 3) := by decide +kernel
theorem dX11_isAsked_106 : decode cX11_isAsked 106 = .ok (.iconst 1, 1) := by decide +kernel
theorem dX11_isAsked_107 : decode cX11_isAsked 107 = .ok (.goto 4, 3) := by decide +kernel
theorem dX11_isAsked_110 : decode cX11_isAsked 110 = .ok (.iconst 0, 1) := by decide +kernel
theorem dX11_isAsked_111 : decode cX11_isAsked 111 = .ok (.ireturn, 1) := by decide +kernel
theorem dX11_turned_0 : decode cX11_turned 0 = .ok (.lconst 0, 1) := by decide +kernel
theorem dX11_turned_1 : decode cX11_turned 1 = .ok (.lstore_n 2, 1) := by decide +kernel
theorem dX11_turned_2 : decode cX11_turned 2 = .ok (.lload_n 0, 1) := by decide +kernel
theorem dX11_turned_3 : decode cX11_turned 3 = .ok (.lconst 0, 1) := by decide +kernel
theorem dX11_turned_4 : decode cX11_turned 4 = .ok (.lcmp, 1) := by decide +kernel
theorem dX11_turned_5 : decode cX11_turned 5 = .ok (.ifCond .ge 8, 3) := by decide +kernel
theorem dX11_turned_8 : decode cX11_turned 8 = .ok (.lload_n 0, 1) := by decide +kernel
theorem dX11_turned_9 : decode cX11_turned 9 = .ok (.lneg, 1) := by decide +kernel
theorem dX11_turned_10 : decode cX11_turned 10 = .ok (.goto 4, 3) := by decide +kernel
theorem dX11_turned_13 : decode cX11_turned 13 = .ok (.lload_n 0, 1) := by decide +kernel
theorem dX11_turned_14 : decode cX11_turned 14 = .ok (.lstore 4, 2) := by decide +kernel
theorem dX11_turned_16 : decode cX11_turned 16 = .ok (.lload 4, 2) := by decide +kernel
theorem dX11_turned_18 : decode cX11_turned 18 = .ok (.lconst 0, 1) := by decide +kernel
theorem dX11_turned_19 : decode cX11_turned 19 = .ok (.lcmp, 1) := by decide +kernel
theorem dX11_turned_20 : decode cX11_turned 20 = .ok (.ifCond .le 27, 3) := by decide +kernel
theorem dX11_turned_23 : decode cX11_turned 23 = .ok (.ldc2_w 269, 3) := by decide +kernel
theorem dX11_turned_26 : decode cX11_turned 26 = .ok (.lload_n 2, 1) := by decide +kernel
theorem dX11_turned_27 : decode cX11_turned 27 = .ok (.lmul, 1) := by decide +kernel
theorem dX11_turned_28 : decode cX11_turned 28 = .ok (.lload 4, 2) := by decide +kernel
theorem dX11_turned_30 : decode cX11_turned 30 = .ok (.ldc2_w 269, 3) := by decide +kernel
theorem dX11_turned_33 : decode cX11_turned 33 = .ok (.lrem, 1) := by decide +kernel
theorem dX11_turned_34 : decode cX11_turned 34 = .ok (.ladd, 1) := by decide +kernel
theorem dX11_turned_35 : decode cX11_turned 35 = .ok (.lstore_n 2, 1) := by decide +kernel
theorem dX11_turned_36 : decode cX11_turned 36 = .ok (.lload 4, 2) := by decide +kernel
theorem dX11_turned_38 : decode cX11_turned 38 = .ok (.ldc2_w 269, 3) := by decide +kernel
theorem dX11_turned_41 : decode cX11_turned 41 = .ok (.ldiv, 1) := by decide +kernel
theorem dX11_turned_42 : decode cX11_turned 42 = .ok (.lstore 4, 2) := by decide +kernel
theorem dX11_turned_44 : decode cX11_turned 44 = .ok (.goto (-28), 3) := by decide +kernel
theorem dX11_turned_47 : decode cX11_turned 47 = .ok (.lload_n 2, 1) := by decide +kernel
theorem dX11_turned_48 : decode cX11_turned 48 = .ok (.lreturn, 1) := by decide +kernel
theorem dX11_deepOf_0 : decode cX11_deepOf 0 = .ok (.lload_n 1, 1) := by decide +kernel
theorem dX11_deepOf_1 : decode cX11_deepOf 1 = .ok (.lconst 0, 1) := by decide +kernel
theorem dX11_deepOf_2 : decode cX11_deepOf 2 = .ok (.lcmp, 1) := by decide +kernel
theorem dX11_deepOf_3 : decode cX11_deepOf 3 = .ok (.ifCond .lt 27, 3) := by decide +kernel
theorem dX11_deepOf_6 : decode cX11_deepOf 6 = .ok (.lload_n 1, 1) := by decide +kernel
theorem dX11_deepOf_7 : decode cX11_deepOf 7 = .ok (.aload_n 0, 1) := by decide +kernel
theorem dX11_deepOf_8 : decode cX11_deepOf 8 = .ok (.getfield 7, 3) := by decide +kernel
theorem dX11_deepOf_11 : decode cX11_deepOf 11 = .ok (.bipush 14, 2) := by decide +kernel
theorem dX11_deepOf_13 : decode cX11_deepOf 13 = .ok (.iaload, 1) := by decide +kernel
theorem dX11_deepOf_14 : decode cX11_deepOf 14 = .ok (.i2l, 1) := by decide +kernel
theorem dX11_deepOf_15 : decode cX11_deepOf 15 = .ok (.lcmp, 1) := by decide +kernel
theorem dX11_deepOf_16 : decode cX11_deepOf 16 = .ok (.ifCond .ge 14, 3) := by decide +kernel
theorem dX11_deepOf_19 : decode cX11_deepOf 19 = .ok (.aload_n 0, 1) := by decide +kernel
theorem dX11_deepOf_20 : decode cX11_deepOf 20 = .ok (.lload_n 1, 1) := by decide +kernel
theorem dX11_deepOf_21 : decode cX11_deepOf 21 = .ok (.l2i, 1) := by decide +kernel
theorem dX11_deepOf_22 : decode cX11_deepOf 22 = .ok (.iconst 0, 1) := by decide +kernel
theorem dX11_deepOf_23 : decode cX11_deepOf 23 = .ok (.invokevirtual 66, 3) := by decide +kernel
theorem dX11_deepOf_26 : decode cX11_deepOf 26 = .ok (.i2l, 1) := by decide +kernel
theorem dX11_deepOf_27 : decode cX11_deepOf 27 = .ok (.goto 4, 3) := by decide +kernel
theorem dX11_deepOf_30 : decode cX11_deepOf 30 = .ok (.lconst 0, 1) := by decide +kernel
theorem dX11_deepOf_31 : decode cX11_deepOf 31 = .ok (.lreturn, 1) := by decide +kernel
theorem dX11_joined_0 : decode cX11_joined 0 = .ok (.iload_n 0, 1) := by decide +kernel
theorem dX11_joined_1 : decode cX11_joined 1 = .ok (.bipush 21, 2) := by decide +kernel
theorem dX11_joined_3 : decode cX11_joined 3 = .ok (.if_icmp .ne 19, 3) := by decide +kernel
theorem dX11_joined_6 : decode cX11_joined 6 = .ok (.iload_n 1, 1) := by decide +kernel
theorem dX11_joined_7 : decode cX11_joined 7 = .ok (.ifCond .eq 11, 3) := by decide +kernel
theorem dX11_joined_10 : decode cX11_joined 10 = .ok (.iload_n 2, 1) := by decide +kernel
theorem dX11_joined_11 : decode cX11_joined 11 = .ok (.ifCond .eq 7, 3) := by decide +kernel
theorem dX11_joined_14 : decode cX11_joined 14 = .ok (.iconst 1, 1) := by decide +kernel
theorem dX11_joined_15 : decode cX11_joined 15 = .ok (.goto 20, 3) := by decide +kernel
theorem dX11_joined_18 : decode cX11_joined 18 = .ok (.iconst 0, 1) := by decide +kernel
theorem dX11_joined_19 : decode cX11_joined 19 = .ok (.goto 16, 3) := by decide +kernel
theorem dX11_joined_22 : decode cX11_joined 22 = .ok (.iload_n 1, 1) := by decide +kernel
theorem dX11_joined_23 : decode cX11_joined 23 = .ok (.ifCond .ne 7, 3) := by decide +kernel
theorem dX11_joined_26 : decode cX11_joined 26 = .ok (.iload_n 2, 1) := by decide +kernel
theorem dX11_joined_27 : decode cX11_joined 27 = .ok (.ifCond .eq 7, 3) := by decide +kernel
theorem dX11_joined_30 : decode cX11_joined 30 = .ok (.iconst 1, 1) := by decide +kernel
theorem dX11_joined_31 : decode cX11_joined 31 = .ok (.goto 4, 3) := by decide +kernel
theorem dX11_joined_34 : decode cX11_joined 34 = .ok (.iconst 0, 1) := by decide +kernel
theorem dX11_joined_35 : decode cX11_joined 35 = .ok (.ireturn, 1) := by decide +kernel
theorem dX11_summedUp_0 : decode cX11_summedUp 0 = .ok (.sipush 705, 3) := by decide +kernel
theorem dX11_summedUp_3 : decode cX11_summedUp 3 = .ok (.iload_n 1, 1) := by decide +kernel
theorem dX11_summedUp_4 : decode cX11_summedUp 4 = .ok (.imul, 1) := by decide +kernel
theorem dX11_summedUp_5 : decode cX11_summedUp 5 = .ok (.iconst 1, 1) := by decide +kernel
theorem dX11_summedUp_6 : decode cX11_summedUp 6 = .ok (.iadd, 1) := by decide +kernel
theorem dX11_summedUp_7 : decode cX11_summedUp 7 = .ok (.iconst 4, 1) := by decide +kernel
theorem dX11_summedUp_8 : decode cX11_summedUp 8 = .ok (.iload_n 2, 1) := by decide +kernel
theorem dX11_summedUp_9 : decode cX11_summedUp 9 = .ok (.imul, 1) := by decide +kernel
theorem dX11_summedUp_10 : decode cX11_summedUp 10 = .ok (.iadd, 1) := by decide +kernel
theorem dX11_summedUp_11 : decode cX11_summedUp 11 = .ok (.istore_n 3, 1) := by decide +kernel
theorem dX11_summedUp_12 : decode cX11_summedUp 12 = .ok (.sipush 705, 3) := by decide +kernel
theorem dX11_summedUp_15 : decode cX11_summedUp 15 = .ok (.iload_n 1, 1) := by decide +kernel
theorem dX11_summedUp_16 : decode cX11_summedUp 16 = .ok (.imul, 1) := by decide +kernel
theorem dX11_summedUp_17 : decode cX11_summedUp 17 = .ok (.bipush 97, 2) := by decide +kernel
theorem dX11_summedUp_19 : decode cX11_summedUp 19 = .ok (.iadd, 1) := by decide +kernel
theorem dX11_summedUp_20 : decode cX11_summedUp 20 = .ok (.istore 4, 2) := by decide +kernel
theorem dX11_summedUp_22 : decode cX11_summedUp 22 = .ok (.iconst 0, 1) := by decide +kernel
theorem dX11_summedUp_23 : decode cX11_summedUp 23 = .ok (.istore 5, 2) := by decide +kernel
theorem dX11_summedUp_25 : decode cX11_summedUp 25 = .ok (.iconst 0, 1) := by decide +kernel
theorem dX11_summedUp_26 : decode cX11_summedUp 26 = .ok (.istore 6, 2) := by decide +kernel
theorem dX11_summedUp_28 : decode cX11_summedUp 28 = .ok (.aload_n 0, 1) := by decide +kernel
theorem dX11_summedUp_29 : decode cX11_summedUp 29 = .ok (.getfield 16, 3) := by decide +kernel
theorem dX11_summedUp_32 : decode cX11_summedUp 32 = .ok (.iload_n 3, 1) := by decide +kernel
theorem dX11_summedUp_33 : decode cX11_summedUp 33 = .ok (.iconst 1, 1) := by decide +kernel
theorem dX11_summedUp_34 : decode cX11_summedUp 34 = .ok (.iadd, 1) := by decide +kernel
theorem dX11_summedUp_35 : decode cX11_summedUp 35 = .ok (.iaload, 1) := by decide +kernel
theorem dX11_summedUp_36 : decode cX11_summedUp 36 = .ok (.istore 7, 2) := by decide +kernel
theorem dX11_summedUp_38 : decode cX11_summedUp 38 = .ok (.iload 7, 2) := by decide +kernel
theorem dX11_summedUp_40 : decode cX11_summedUp 40 = .ok (.aload_n 0, 1) := by decide +kernel
theorem dX11_summedUp_41 : decode cX11_summedUp 41 = .ok (.getfield 16, 3) := by decide +kernel
theorem dX11_summedUp_44 : decode cX11_summedUp 44 = .ok (.iload_n 3, 1) := by decide +kernel
theorem dX11_summedUp_45 : decode cX11_summedUp 45 = .ok (.iconst 2, 1) := by decide +kernel
theorem dX11_summedUp_46 : decode cX11_summedUp 46 = .ok (.iadd, 1) := by decide +kernel
theorem dX11_summedUp_47 : decode cX11_summedUp 47 = .ok (.iaload, 1) := by decide +kernel
theorem dX11_summedUp_48 : decode cX11_summedUp 48 = .ok (.if_icmp .ge 345, 3) := by decide +kernel
theorem dX11_summedUp_51 : decode cX11_summedUp 51 = .ok (.aload_n 0, 1) := by decide +kernel
theorem dX11_summedUp_52 : decode cX11_summedUp 52 = .ok (.getfield 16, 3) := by decide +kernel
theorem dX11_summedUp_55 : decode cX11_summedUp 55 = .ok (.iload 4, 2) := by decide +kernel
theorem dX11_summedUp_57 : decode cX11_summedUp 57 = .ok (.iconst 2, 1) := by decide +kernel
theorem dX11_summedUp_58 : decode cX11_summedUp 58 = .ok (.iload 7, 2) := by decide +kernel
theorem dX11_summedUp_60 : decode cX11_summedUp 60 = .ok (.imul, 1) := by decide +kernel
theorem dX11_summedUp_61 : decode cX11_summedUp 61 = .ok (.iadd, 1) := by decide +kernel
theorem dX11_summedUp_62 : decode cX11_summedUp 62 = .ok (.iaload, 1) := by decide +kernel
theorem dX11_summedUp_63 : decode cX11_summedUp 63 = .ok (.istore 8, 2) := by decide +kernel
theorem dX11_summedUp_65 : decode cX11_summedUp 65 = .ok (.aload_n 0, 1) := by decide +kernel
theorem dX11_summedUp_66 : decode cX11_summedUp 66 = .ok (.getfield 16, 3) := by decide +kernel
theorem dX11_summedUp_69 : decode cX11_summedUp 69 = .ok (.iload 4, 2) := by decide +kernel
theorem dX11_summedUp_71 : decode cX11_summedUp 71 = .ok (.iconst 2, 1) := by decide +kernel
theorem dX11_summedUp_72 : decode cX11_summedUp 72 = .ok (.iload 7, 2) := by decide +kernel
theorem dX11_summedUp_74 : decode cX11_summedUp 74 = .ok (.imul, 1) := by decide +kernel
theorem dX11_summedUp_75 : decode cX11_summedUp 75 = .ok (.iadd, 1) := by decide +kernel
theorem dX11_summedUp_76 : decode cX11_summedUp 76 = .ok (.iconst 1, 1) := by decide +kernel
theorem dX11_summedUp_77 : decode cX11_summedUp 77 = .ok (.iadd, 1) := by decide +kernel
theorem dX11_summedUp_78 : decode cX11_summedUp 78 = .ok (.iaload, 1) := by decide +kernel
theorem dX11_summedUp_79 : decode cX11_summedUp 79 = .ok (.istore 9, 2) := by decide +kernel
theorem dX11_summedUp_81 : decode cX11_summedUp 81 = .ok (.iload 8, 2) := by decide +kernel
theorem dX11_summedUp_83 : decode cX11_summedUp 83 = .ok (.iconst 1, 1) := by decide +kernel
theorem dX11_summedUp_84 : decode cX11_summedUp 84 = .ok (.if_icmp .gt 35, 3) := by decide +kernel
theorem dX11_summedUp_87 : decode cX11_summedUp 87 = .ok (.aload_n 0, 1) := by decide +kernel
theorem dX11_summedUp_88 : decode cX11_summedUp 88 = .ok (.getfield 35, 3) := by decide +kernel
theorem dX11_summedUp_91 : decode cX11_summedUp 91 = .ok (.iload 5, 2) := by decide +kernel
theorem dX11_summedUp_93 : decode cX11_summedUp 93 = .ok (.iload 8, 2) := by decide +kernel
theorem dX11_summedUp_95 : decode cX11_summedUp 95 = .ok (.ifCond .ne 9, 3) := by decide +kernel
theorem dX11_summedUp_98 : decode cX11_summedUp 98 = .ok (.iload 9, 2) := by decide +kernel
theorem dX11_summedUp_100 : decode cX11_summedUp 100 = .ok (.i2l, 1) := by decide +kernel
theorem dX11_summedUp_101 : decode cX11_summedUp 101 = .ok (.goto 11, 3) := by decide +kernel
theorem dX11_summedUp_104 : decode cX11_summedUp 104 = .ok (.aload_n 0, 1) := by decide +kernel
theorem dX11_summedUp_105 : decode cX11_summedUp 105 = .ok (.getfield 32, 3) := by decide +kernel
theorem dX11_summedUp_108 : decode cX11_summedUp 108 = .ok (.iload 9, 2) := by decide +kernel
theorem dX11_summedUp_110 : decode cX11_summedUp 110 = .ok (.iaload, 1) := by decide +kernel
theorem dX11_summedUp_111 : decode cX11_summedUp 111 = .ok (.i2l, 1) := by decide +kernel
theorem dX11_summedUp_112 : decode cX11_summedUp 112 = .ok (.lastore, 1) := by decide +kernel
theorem dX11_summedUp_113 : decode cX11_summedUp 113 = .ok (.iinc 5 1, 3) := by decide +kernel
theorem dX11_summedUp_116 : decode cX11_summedUp 116 = .ok (.goto 271, 3) := by decide +kernel
theorem dX11_summedUp_119 : decode cX11_summedUp 119 = .ok (.iload 8, 2) := by decide +kernel
theorem dX11_summedUp_121 : decode cX11_summedUp 121 = .ok (.iconst 4, 1) := by decide +kernel
theorem dX11_summedUp_122 : decode cX11_summedUp 122 = .ok (.if_icmp .ne 38, 3) := by decide +kernel
theorem dX11_summedUp_125 : decode cX11_summedUp 125 = .ok (.iinc 5 (-1), 3) := by decide +kernel
theorem dX11_summedUp_128 : decode cX11_summedUp 128 = .ok (.iinc 6 (-1), 3) := by decide +kernel
theorem dX11_summedUp_131 : decode cX11_summedUp 131 = .ok (.aload_n 0, 1) := by decide +kernel
theorem dX11_summedUp_132 : decode cX11_summedUp 132 = .ok (.getfield 39, 3) := by decide +kernel
theorem dX11_summedUp_135 : decode cX11_summedUp 135 = .ok (.iload 6, 2) := by decide +kernel
theorem dX11_summedUp_137 : decode cX11_summedUp 137 = .ok (.baload, 1) := by decide +kernel
theorem dX11_summedUp_138 : decode cX11_summedUp 138 = .ok (.ifCond .ne 249, 3) := by decide +kernel
theorem dX11_summedUp_141 : decode cX11_summedUp 141 = .ok (.aload_n 0, 1) := by decide +kernel
theorem dX11_summedUp_142 : decode cX11_summedUp 142 = .ok (.getfield 35, 3) := by decide +kernel
theorem dX11_summedUp_145 : decode cX11_summedUp 145 = .ok (.iload 5, 2) := by decide +kernel
theorem dX11_summedUp_147 : decode cX11_summedUp 147 = .ok (.iconst 1, 1) := by decide +kernel
theorem dX11_summedUp_148 : decode cX11_summedUp 148 = .ok (.isub, 1) := by decide +kernel
theorem dX11_summedUp_149 : decode cX11_summedUp 149 = .ok (.aload_n 0, 1) := by decide +kernel
theorem dX11_summedUp_150 : decode cX11_summedUp 150 = .ok (.getfield 35, 3) := by decide +kernel
theorem dX11_summedUp_153 : decode cX11_summedUp 153 = .ok (.iload 5, 2) := by decide +kernel
theorem dX11_summedUp_155 : decode cX11_summedUp 155 = .ok (.laload, 1) := by decide +kernel
theorem dX11_summedUp_156 : decode cX11_summedUp 156 = .ok (.lastore, 1) := by decide +kernel
theorem dX11_summedUp_157 : decode cX11_summedUp 157 = .ok (.goto 230, 3) := by decide +kernel
theorem dX11_summedUp_160 : decode cX11_summedUp 160 = .ok (.iload 8, 2) := by decide +kernel
theorem dX11_summedUp_162 : decode cX11_summedUp 162 = .ok (.iconst 5, 1) := by decide +kernel
theorem dX11_summedUp_163 : decode cX11_summedUp 163 = .ok (.if_icmp .gt 68, 3) := by decide +kernel
theorem dX11_summedUp_166 : decode cX11_summedUp 166 = .ok (.aload_n 0, 1) := by decide +kernel
theorem dX11_summedUp_167 : decode cX11_summedUp 167 = .ok (.getfield 35, 3) := by decide +kernel
theorem dX11_summedUp_170 : decode cX11_summedUp 170 = .ok (.iload 5, 2) := by decide +kernel
theorem dX11_summedUp_172 : decode cX11_summedUp 172 = .ok (.iconst 1, 1) := by decide +kernel
theorem dX11_summedUp_173 : decode cX11_summedUp 173 = .ok (.isub, 1) := by decide +kernel
theorem dX11_summedUp_174 : decode cX11_summedUp 174 = .ok (.iload 8, 2) := by decide +kernel
theorem dX11_summedUp_176 : decode cX11_summedUp 176 = .ok (.iconst 5, 1) := by decide +kernel
theorem dX11_summedUp_177 : decode cX11_summedUp 177 = .ok (.if_icmp .ne 16, 3) := by decide +kernel
theorem dX11_summedUp_180 : decode cX11_summedUp 180 = .ok (.aload_n 0, 1) := by decide +kernel
theorem dX11_summedUp_181 : decode cX11_summedUp 181 = .ok (.getfield 35, 3) := by decide +kernel
theorem dX11_summedUp_184 : decode cX11_summedUp 184 = .ok (.iload 5, 2) := by decide +kernel
theorem dX11_summedUp_186 : decode cX11_summedUp 186 = .ok (.iconst 1, 1) := by decide +kernel
theorem dX11_summedUp_187 : decode cX11_summedUp 187 = .ok (.isub, 1) := by decide +kernel
theorem dX11_summedUp_188 : decode cX11_summedUp 188 = .ok (.laload, 1) := by decide +kernel
theorem dX11_summedUp_189 : decode cX11_summedUp 189 = .ok (.lneg, 1) := by decide +kernel
theorem dX11_summedUp_190 : decode cX11_summedUp 190 = .ok (.goto 37, 3) := by decide +kernel
theorem dX11_summedUp_193 : decode cX11_summedUp 193 = .ok (.iload 8, 2) := by decide +kernel
theorem dX11_summedUp_195 : decode cX11_summedUp 195 = .ok (.iconst 3, 1) := by decide +kernel
theorem dX11_summedUp_196 : decode cX11_summedUp 196 = .ok (.if_icmp .ne 19, 3) := by decide +kernel
theorem dX11_summedUp_199 : decode cX11_summedUp 199 = .ok (.aload_n 0, 1) := by decide +kernel
theorem dX11_summedUp_200 : decode cX11_summedUp 200 = .ok (.aload_n 0, 1) := by decide +kernel
theorem dX11_summedUp_201 : decode cX11_summedUp 201 = .ok (.getfield 35, 3) := by decide +kernel
theorem dX11_summedUp_204 : decode cX11_summedUp 204 = .ok (.iload 5, 2) := by decide +kernel
theorem dX11_summedUp_206 : decode cX11_summedUp 206 = .ok (.iconst 1, 1) := by decide +kernel
theorem dX11_summedUp_207 : decode cX11_summedUp 207 = .ok (.isub, 1) := by decide +kernel
theorem dX11_summedUp_208 : decode cX11_summedUp 208 = .ok (.laload, 1) := by decide +kernel
theorem dX11_summedUp_209 : decode cX11_summedUp 209 = .ok (.invokevirtual 271, 3) := by decide +kernel
theorem dX11_summedUp_212 : decode cX11_summedUp 212 = .ok (.goto 15, 3) := by decide +kernel
theorem dX11_summedUp_215 : decode cX11_summedUp 215 = .ok (.aload_n 0, 1) := by decide +kernel
theorem dX11_summedUp_216 : decode cX11_summedUp 216 = .ok (.getfield 35, 3) := by decide +kernel
theorem dX11_summedUp_219 : decode cX11_summedUp 219 = .ok (.iload 5, 2) := by decide +kernel
theorem dX11_summedUp_221 : decode cX11_summedUp 221 = .ok (.iconst 1, 1) := by decide +kernel
theorem dX11_summedUp_222 : decode cX11_summedUp 222 = .ok (.isub, 1) := by decide +kernel
theorem dX11_summedUp_223 : decode cX11_summedUp 223 = .ok (.laload, 1) := by decide +kernel
theorem dX11_summedUp_224 : decode cX11_summedUp 224 = .ok (.invokestatic 274, 3) := by decide +kernel
theorem dX11_summedUp_227 : decode cX11_summedUp 227 = .ok (.lastore, 1) := by decide +kernel
theorem dX11_summedUp_228 : decode cX11_summedUp 228 = .ok (.goto 159, 3) := by decide +kernel
theorem dX11_summedUp_231 : decode cX11_summedUp 231 = .ok (.iload 8, 2) := by decide +kernel
theorem dX11_summedUp_233 : decode cX11_summedUp 233 = .ok (.bipush 10, 2) := by decide +kernel
theorem dX11_summedUp_235 : decode cX11_summedUp 235 = .ok (.if_icmp .ge 39, 3) := by decide +kernel
theorem dX11_summedUp_238 : decode cX11_summedUp 238 = .ok (.iinc 5 (-1), 3) := by decide +kernel
theorem dX11_summedUp_241 : decode cX11_summedUp 241 = .ok (.aload_n 0, 1) := by decide +kernel
theorem dX11_summedUp_242 : decode cX11_summedUp 242 = .ok (.getfield 35, 3) := by decide +kernel
theorem dX11_summedUp_245 : decode cX11_summedUp 245 = .ok (.iload 5, 2) := by decide +kernel
theorem dX11_summedUp_247 : decode cX11_summedUp 247 = .ok (.iconst 1, 1) := by decide +kernel
theorem dX11_summedUp_248 : decode cX11_summedUp 248 = .ok (.isub, 1) := by decide +kernel
theorem dX11_summedUp_249 : decode cX11_summedUp 249 = .ok (.iload 8, 2) := by decide +kernel
theorem dX11_summedUp_251 : decode cX11_summedUp 251 = .ok (.aload_n 0, 1) := by decide +kernel
theorem dX11_summedUp_252 : decode cX11_summedUp 252 = .ok (.getfield 35, 3) := by decide +kernel
theorem dX11_summedUp_255 : decode cX11_summedUp 255 = .ok (.iload 5, 2) := by decide +kernel
theorem dX11_summedUp_257 : decode cX11_summedUp 257 = .ok (.iconst 1, 1) := by decide +kernel
theorem dX11_summedUp_258 : decode cX11_summedUp 258 = .ok (.isub, 1) := by decide +kernel
theorem dX11_summedUp_259 : decode cX11_summedUp 259 = .ok (.laload, 1) := by decide +kernel
theorem dX11_summedUp_260 : decode cX11_summedUp 260 = .ok (.aload_n 0, 1) := by decide +kernel
theorem dX11_summedUp_261 : decode cX11_summedUp 261 = .ok (.getfield 35, 3) := by decide +kernel
theorem dX11_summedUp_264 : decode cX11_summedUp 264 = .ok (.iload 5, 2) := by decide +kernel
theorem dX11_summedUp_266 : decode cX11_summedUp 266 = .ok (.laload, 1) := by decide +kernel
theorem dX11_summedUp_267 : decode cX11_summedUp 267 = .ok (.invokestatic 277, 3) := by decide +kernel
theorem dX11_summedUp_270 : decode cX11_summedUp 270 = .ok (.lastore, 1) := by decide +kernel
theorem dX11_summedUp_271 : decode cX11_summedUp 271 = .ok (.goto 116, 3) := by decide +kernel
theorem dX11_summedUp_274 : decode cX11_summedUp 274 = .ok (.iload 8, 2) := by decide +kernel
theorem dX11_summedUp_276 : decode cX11_summedUp 276 = .ok (.bipush 20, 2) := by decide +kernel
theorem dX11_summedUp_278 : decode cX11_summedUp 278 = .ok (.if_icmp .ge 40, 3) := by decide +kernel
theorem dX11_summedUp_281 : decode cX11_summedUp 281 = .ok (.iinc 5 (-2), 3) := by decide +kernel
theorem dX11_summedUp_284 : decode cX11_summedUp 284 = .ok (.aload_n 0, 1) := by decide +kernel
theorem dX11_summedUp_285 : decode cX11_summedUp 285 = .ok (.getfield 39, 3) := by decide +kernel
theorem dX11_summedUp_288 : decode cX11_summedUp 288 = .ok (.iload 6, 2) := by decide +kernel
theorem dX11_summedUp_290 : decode cX11_summedUp 290 = .ok (.iload 8, 2) := by decide +kernel
theorem dX11_summedUp_292 : decode cX11_summedUp 292 = .ok (.aload_n 0, 1) := by decide +kernel
theorem dX11_summedUp_293 : decode cX11_summedUp 293 = .ok (.getfield 35, 3) := by decide +kernel
theorem dX11_summedUp_296 : decode cX11_summedUp 296 = .ok (.iload 5, 2) := by decide +kernel
theorem dX11_summedUp_298 : decode cX11_summedUp 298 = .ok (.laload, 1) := by decide +kernel
theorem dX11_summedUp_299 : decode cX11_summedUp 299 = .ok (.aload_n 0, 1) := by decide +kernel
theorem dX11_summedUp_300 : decode cX11_summedUp 300 = .ok (.getfield 35, 3) := by decide +kernel
theorem dX11_summedUp_303 : decode cX11_summedUp 303 = .ok (.iload 5, 2) := by decide +kernel
theorem dX11_summedUp_305 : decode cX11_summedUp 305 = .ok (.iconst 1, 1) := by decide +kernel
theorem dX11_summedUp_306 : decode cX11_summedUp 306 = .ok (.iadd, 1) := by decide +kernel
theorem dX11_summedUp_307 : decode cX11_summedUp 307 = .ok (.laload, 1) := by decide +kernel
theorem dX11_summedUp_308 : decode cX11_summedUp 308 = .ok (.invokestatic 281, 3) := by decide +kernel
theorem dX11_summedUp_311 : decode cX11_summedUp 311 = .ok (.bastore, 1) := by decide +kernel
theorem dX11_summedUp_312 : decode cX11_summedUp 312 = .ok (.iinc 6 1, 3) := by decide +kernel
theorem dX11_summedUp_315 : decode cX11_summedUp 315 = .ok (.goto 72, 3) := by decide +kernel
theorem dX11_summedUp_318 : decode cX11_summedUp 318 = .ok (.iload 8, 2) := by decide +kernel
theorem dX11_summedUp_320 : decode cX11_summedUp 320 = .ok (.bipush 20, 2) := by decide +kernel
theorem dX11_summedUp_322 : decode cX11_summedUp 322 = .ok (.if_icmp .ne 32, 3) := by decide +kernel
theorem dX11_summedUp_325 : decode cX11_summedUp 325 = .ok (.aload_n 0, 1) := by decide +kernel
theorem dX11_summedUp_326 : decode cX11_summedUp 326 = .ok (.getfield 39, 3) := by decide +kernel
theorem dX11_summedUp_329 : decode cX11_summedUp 329 = .ok (.iload 6, 2) := by decide +kernel
theorem dX11_summedUp_331 : decode cX11_summedUp 331 = .ok (.iconst 1, 1) := by decide +kernel
theorem dX11_summedUp_332 : decode cX11_summedUp 332 = .ok (.isub, 1) := by decide +kernel
theorem dX11_summedUp_333 : decode cX11_summedUp 333 = .ok (.aload_n 0, 1) := by decide +kernel
theorem dX11_summedUp_334 : decode cX11_summedUp 334 = .ok (.getfield 39, 3) := by decide +kernel
theorem dX11_summedUp_337 : decode cX11_summedUp 337 = .ok (.iload 6, 2) := by decide +kernel
theorem dX11_summedUp_339 : decode cX11_summedUp 339 = .ok (.iconst 1, 1) := by decide +kernel
theorem dX11_summedUp_340 : decode cX11_summedUp 340 = .ok (.isub, 1) := by decide +kernel
theorem dX11_summedUp_341 : decode cX11_summedUp 341 = .ok (.baload, 1) := by decide +kernel
theorem dX11_summedUp_342 : decode cX11_summedUp 342 = .ok (.ifCond .ne 7, 3) := by decide +kernel
theorem dX11_summedUp_345 : decode cX11_summedUp 345 = .ok (.iconst 1, 1) := by decide +kernel
theorem dX11_summedUp_346 : decode cX11_summedUp 346 = .ok (.goto 4, 3) := by decide +kernel
theorem dX11_summedUp_349 : decode cX11_summedUp 349 = .ok (.iconst 0, 1) := by decide +kernel
theorem dX11_summedUp_350 : decode cX11_summedUp 350 = .ok (.bastore, 1) := by decide +kernel
theorem dX11_summedUp_351 : decode cX11_summedUp 351 = .ok (.goto 36, 3) := by decide +kernel
theorem dX11_summedUp_354 : decode cX11_summedUp 354 = .ok (.iinc 6 (-1), 3) := by decide +kernel
theorem dX11_summedUp_357 : decode cX11_summedUp 357 = .ok (.aload_n 0, 1) := by decide +kernel
theorem dX11_summedUp_358 : decode cX11_summedUp 358 = .ok (.getfield 39, 3) := by decide +kernel
theorem dX11_summedUp_361 : decode cX11_summedUp 361 = .ok (.iload 6, 2) := by decide +kernel
theorem dX11_summedUp_363 : decode cX11_summedUp 363 = .ok (.iconst 1, 1) := by decide +kernel
theorem dX11_summedUp_364 : decode cX11_summedUp 364 = .ok (.isub, 1) := by decide +kernel
theorem dX11_summedUp_365 : decode cX11_summedUp 365 = .ok (.iload 8, 2) := by decide +kernel
theorem dX11_summedUp_367 : decode cX11_summedUp 367 = .ok (.aload_n 0, 1) := by decide +kernel
theorem dX11_summedUp_368 : decode cX11_summedUp 368 = .ok (.getfield 39, 3) := by decide +kernel
theorem dX11_summedUp_371 : decode cX11_summedUp 371 = .ok (.iload 6, 2) := by decide +kernel
theorem dX11_summedUp_373 : decode cX11_summedUp 373 = .ok (.iconst 1, 1) := by decide +kernel
theorem dX11_summedUp_374 : decode cX11_summedUp 374 = .ok (.isub, 1) := by decide +kernel
theorem dX11_summedUp_375 : decode cX11_summedUp 375 = .ok (.baload, 1) := by decide +kernel
theorem dX11_summedUp_376 : decode cX11_summedUp 376 = .ok (.aload_n 0, 1) := by decide +kernel
theorem dX11_summedUp_377 : decode cX11_summedUp 377 = .ok (.getfield 39, 3) := by decide +kernel
theorem dX11_summedUp_380 : decode cX11_summedUp 380 = .ok (.iload 6, 2) := by decide +kernel
theorem dX11_summedUp_382 : decode cX11_summedUp 382 = .ok (.baload, 1) := by decide +kernel
theorem dX11_summedUp_383 : decode cX11_summedUp 383 = .ok (.invokestatic 285, 3) := by decide +kernel
theorem dX11_summedUp_386 : decode cX11_summedUp 386 = .ok (.bastore, 1) := by decide +kernel
theorem dX11_summedUp_387 : decode cX11_summedUp 387 = .ok (.iinc 7 1, 3) := by decide +kernel
theorem dX11_summedUp_390 : decode cX11_summedUp 390 = .ok (.goto (-352), 3) := by decide +kernel
theorem dX11_summedUp_393 : decode cX11_summedUp 393 = .ok (.aload_n 0, 1) := by decide +kernel
theorem dX11_summedUp_394 : decode cX11_summedUp 394 = .ok (.getfield 35, 3) := by decide +kernel
theorem dX11_summedUp_397 : decode cX11_summedUp 397 = .ok (.iconst 0, 1) := by decide +kernel
theorem dX11_summedUp_398 : decode cX11_summedUp 398 = .ok (.laload, 1) := by decide +kernel
theorem dX11_summedUp_399 : decode cX11_summedUp 399 = .ok (.lreturn, 1) := by decide +kernel
theorem dX11_says_0 : decode cX11_says 0 = .ok (.iconst 0, 1) := by decide +kernel
theorem dX11_says_1 : decode cX11_says 1 = .ok (.istore 5, 2) := by decide +kernel
theorem dX11_says_3 : decode cX11_says 3 = .ok (.iload_n 1, 1) := by decide +kernel
theorem dX11_says_4 : decode cX11_says 4 = .ok (.ifCond .lt 59, 3) := by decide +kernel
theorem dX11_says_7 : decode cX11_says 7 = .ok (.iload 5, 2) := by decide +kernel
theorem dX11_says_9 : decode cX11_says 9 = .ok (.aload_n 0, 1) := by decide +kernel
theorem dX11_says_10 : decode cX11_says 10 = .ok (.getfield 16, 3) := by decide +kernel
theorem dX11_says_13 : decode cX11_says 13 = .ok (.sipush 705, 3) := by decide +kernel
theorem dX11_says_16 : decode cX11_says 16 = .ok (.iload_n 1, 1) := by decide +kernel
theorem dX11_says_17 : decode cX11_says 17 = .ok (.imul, 1) := by decide +kernel
theorem dX11_says_18 : decode cX11_says 18 = .ok (.iaload, 1) := by decide +kernel
theorem dX11_says_19 : decode cX11_says 19 = .ok (.if_icmp .ge 44, 3) := by decide +kernel
theorem dX11_says_22 : decode cX11_says 22 = .ok (.aload_n 0, 1) := by decide +kernel
theorem dX11_says_23 : decode cX11_says 23 = .ok (.getfield 16, 3) := by decide +kernel
theorem dX11_says_26 : decode cX11_says 26 = .ok (.sipush 705, 3) := by decide +kernel
theorem dX11_says_29 : decode cX11_says 29 = .ok (.iload_n 1, 1) := by decide +kernel
theorem dX11_says_30 : decode cX11_says 30 = .ok (.imul, 1) := by decide +kernel
theorem dX11_says_31 : decode cX11_says 31 = .ok (.iconst 1, 1) := by decide +kernel
theorem dX11_says_32 : decode cX11_says 32 = .ok (.iadd, 1) := by decide +kernel
theorem dX11_says_33 : decode cX11_says 33 = .ok (.iconst 4, 1) := by decide +kernel
theorem dX11_says_34 : decode cX11_says 34 = .ok (.iload 5, 2) := by decide +kernel
theorem dX11_says_36 : decode cX11_says 36 = .ok (.imul, 1) := by decide +kernel
theorem dX11_says_37 : decode cX11_says 37 = .ok (.iadd, 1) := by decide +kernel
theorem dX11_says_38 : decode cX11_says 38 = .ok (.iaload, 1) := by decide +kernel
theorem dX11_says_39 : decode cX11_says 39 = .ok (.iload_n 2, 1) := by decide +kernel
theorem dX11_says_40 : decode cX11_says 40 = .ok (.if_icmp .ne 17, 3) := by decide +kernel
theorem dX11_says_43 : decode cX11_says 43 = .ok (.aload_n 0, 1) := by decide +kernel
theorem dX11_says_44 : decode cX11_says 44 = .ok (.iload_n 1, 1) := by decide +kernel
theorem dX11_says_45 : decode cX11_says 45 = .ok (.iload 5, 2) := by decide +kernel
theorem dX11_says_47 : decode cX11_says 47 = .ok (.invokevirtual 289, 3) := by decide +kernel
theorem dX11_says_50 : decode cX11_says 50 = .ok (.iconst 0, 1) := by decide +kernel
theorem dX11_says_51 : decode cX11_says 51 = .ok (.iload 4, 2) := by decide +kernel
theorem dX11_says_53 : decode cX11_says 53 = .ok (.invokestatic 292, 3) := by decide +kernel
theorem dX11_says_56 : decode cX11_says 56 = .ok (.ireturn, 1) := by decide +kernel
theorem dX11_says_57 : decode cX11_says 57 = .ok (.iinc 5 1, 3) := by decide +kernel
theorem dX11_says_60 : decode cX11_says 60 = .ok (.goto (-57), 3) := by decide +kernel
theorem dX11_says_63 : decode cX11_says 63 = .ok (.iload_n 3, 1) := by decide +kernel
theorem dX11_says_64 : decode cX11_says 64 = .ok (.i2l, 1) := by decide +kernel
theorem dX11_says_65 : decode cX11_says 65 = .ok (.iconst 0, 1) := by decide +kernel
theorem dX11_says_66 : decode cX11_says 66 = .ok (.iload 4, 2) := by decide +kernel
theorem dX11_says_68 : decode cX11_says 68 = .ok (.invokestatic 292, 3) := by decide +kernel
theorem dX11_says_71 : decode cX11_says 71 = .ok (.ireturn, 1) := by decide +kernel
theorem dX11_name_0 : decode cX11_name 0 = .ok (.aload_n 0, 1) := by decide +kernel
theorem dX11_name_1 : decode cX11_name 1 = .ok (.iload_n 1, 1) := by decide +kernel
theorem dX11_name_2 : decode cX11_name 2 = .ok (.iconst 2, 1) := by decide +kernel
theorem dX11_name_3 : decode cX11_name 3 = .ok (.invokevirtual 66, 3) := by decide +kernel
theorem dX11_name_6 : decode cX11_name 6 = .ok (.istore_n 2, 1) := by decide +kernel
theorem dX11_name_7 : decode cX11_name 7 = .ok (.aload_n 0, 1) := by decide +kernel
theorem dX11_name_8 : decode cX11_name 8 = .ok (.getfield 32, 3) := by decide +kernel
theorem dX11_name_11 : decode cX11_name 11 = .ok (.iconst 0, 1) := by decide +kernel
theorem dX11_name_12 : decode cX11_name 12 = .ok (.aload_n 0, 1) := by decide +kernel
theorem dX11_name_13 : decode cX11_name 13 = .ok (.getfield 7, 3) := by decide +kernel
theorem dX11_name_16 : decode cX11_name 16 = .ok (.bipush 10, 2) := by decide +kernel
theorem dX11_name_18 : decode cX11_name 18 = .ok (.iaload, 1) := by decide +kernel
theorem dX11_name_19 : decode cX11_name 19 = .ok (.iastore, 1) := by decide +kernel
theorem dX11_name_20 : decode cX11_name 20 = .ok (.aload_n 0, 1) := by decide +kernel
theorem dX11_name_21 : decode cX11_name 21 = .ok (.getfield 32, 3) := by decide +kernel
theorem dX11_name_24 : decode cX11_name 24 = .ok (.iconst 1, 1) := by decide +kernel
theorem dX11_name_25 : decode cX11_name 25 = .ok (.aload_n 0, 1) := by decide +kernel
theorem dX11_name_26 : decode cX11_name 26 = .ok (.getfield 7, 3) := by decide +kernel
theorem dX11_name_29 : decode cX11_name 29 = .ok (.bipush 13, 2) := by decide +kernel
theorem dX11_name_31 : decode cX11_name 31 = .ok (.iaload, 1) := by decide +kernel
theorem dX11_name_32 : decode cX11_name 32 = .ok (.iastore, 1) := by decide +kernel
theorem dX11_name_33 : decode cX11_name 33 = .ok (.aload_n 0, 1) := by decide +kernel
theorem dX11_name_34 : decode cX11_name 34 = .ok (.getfield 32, 3) := by decide +kernel
theorem dX11_name_37 : decode cX11_name 37 = .ok (.iconst 2, 1) := by decide +kernel
theorem dX11_name_38 : decode cX11_name 38 = .ok (.iload_n 2, 1) := by decide +kernel
theorem dX11_name_39 : decode cX11_name 39 = .ok (.iastore, 1) := by decide +kernel
theorem dX11_name_40 : decode cX11_name 40 = .ok (.aload_n 0, 1) := by decide +kernel
theorem dX11_name_41 : decode cX11_name 41 = .ok (.getfield 32, 3) := by decide +kernel
theorem dX11_name_44 : decode cX11_name 44 = .ok (.iconst 3, 1) := by decide +kernel
theorem dX11_name_45 : decode cX11_name 45 = .ok (.aload_n 0, 1) := by decide +kernel
theorem dX11_name_46 : decode cX11_name 46 = .ok (.iload_n 2, 1) := by decide +kernel
theorem dX11_name_47 : decode cX11_name 47 = .ok (.iconst 1, 1) := by decide +kernel
theorem dX11_name_48 : decode cX11_name 48 = .ok (.invokevirtual 296, 3) := by decide +kernel
theorem dX11_name_51 : decode cX11_name 51 = .ok (.iastore, 1) := by decide +kernel
theorem dX11_name_52 : decode cX11_name 52 = .ok (.aload_n 0, 1) := by decide +kernel
theorem dX11_name_53 : decode cX11_name 53 = .ok (.getfield 32, 3) := by decide +kernel
theorem dX11_name_56 : decode cX11_name 56 = .ok (.iconst 4, 1) := by decide +kernel
theorem dX11_name_57 : decode cX11_name 57 = .ok (.aload_n 0, 1) := by decide +kernel
theorem dX11_name_58 : decode cX11_name 58 = .ok (.iload_n 1, 1) := by decide +kernel
theorem dX11_name_59 : decode cX11_name 59 = .ok (.iconst 3, 1) := by decide +kernel
theorem dX11_name_60 : decode cX11_name 60 = .ok (.invokevirtual 66, 3) := by decide +kernel
theorem dX11_name_63 : decode cX11_name 63 = .ok (.iastore, 1) := by decide +kernel
theorem dX11_name_64 : decode cX11_name 64 = .ok (.aload_n 0, 1) := by decide +kernel
theorem dX11_name_65 : decode cX11_name 65 = .ok (.getfield 32, 3) := by decide +kernel
theorem dX11_name_68 : decode cX11_name 68 = .ok (.iconst 5, 1) := by decide +kernel
theorem dX11_name_69 : decode cX11_name 69 = .ok (.aload_n 0, 1) := by decide +kernel
theorem dX11_name_70 : decode cX11_name 70 = .ok (.iload_n 1, 1) := by decide +kernel
theorem dX11_name_71 : decode cX11_name 71 = .ok (.iconst 0, 1) := by decide +kernel
theorem dX11_name_72 : decode cX11_name 72 = .ok (.invokevirtual 66, 3) := by decide +kernel
theorem dX11_name_75 : decode cX11_name 75 = .ok (.iastore, 1) := by decide +kernel
theorem dX11_name_76 : decode cX11_name 76 = .ok (.aload_n 0, 1) := by decide +kernel
theorem dX11_name_77 : decode cX11_name 77 = .ok (.getfield 32, 3) := by decide +kernel
theorem dX11_name_80 : decode cX11_name 80 = .ok (.bipush 6, 2) := by decide +kernel
theorem dX11_name_82 : decode cX11_name 82 = .ok (.aload_n 0, 1) := by decide +kernel
theorem dX11_name_83 : decode cX11_name 83 = .ok (.iload_n 1, 1) := by decide +kernel
theorem dX11_name_84 : decode cX11_name 84 = .ok (.iconst 5, 1) := by decide +kernel
theorem dX11_name_85 : decode cX11_name 85 = .ok (.invokevirtual 66, 3) := by decide +kernel
theorem dX11_name_88 : decode cX11_name 88 = .ok (.iastore, 1) := by decide +kernel
theorem dX11_name_89 : decode cX11_name 89 = .ok (.aload_n 0, 1) := by decide +kernel
theorem dX11_name_90 : decode cX11_name 90 = .ok (.getfield 32, 3) := by decide +kernel
theorem dX11_name_93 : decode cX11_name 93 = .ok (.bipush 7, 2) := by decide +kernel
theorem dX11_name_95 : decode cX11_name 95 = .ok (.aload_n 0, 1) := by decide +kernel
theorem dX11_name_96 : decode cX11_name 96 = .ok (.iload_n 2, 1) := by decide +kernel
theorem dX11_name_97 : decode cX11_name 97 = .ok (.iconst 0, 1) := by decide +kernel
theorem dX11_name_98 : decode cX11_name 98 = .ok (.invokevirtual 296, 3) := by decide +kernel
theorem dX11_name_101 : decode cX11_name 101 = .ok (.iastore, 1) := by decide +kernel
theorem dX11_name_102 : decode cX11_name 102 = .ok (.aload_n 0, 1) := by decide +kernel
theorem dX11_name_103 : decode cX11_name 103 = .ok (.getfield 32, 3) := by decide +kernel
theorem dX11_name_106 : decode cX11_name 106 = .ok (.bipush 8, 2) := by decide +kernel
theorem dX11_name_108 : decode cX11_name 108 = .ok (.aload_n 0, 1) := by decide +kernel
theorem dX11_name_109 : decode cX11_name 109 = .ok (.iload_n 1, 1) := by decide +kernel
theorem dX11_name_110 : decode cX11_name 110 = .ok (.invokevirtual 299, 3) := by decide +kernel
theorem dX11_name_113 : decode cX11_name 113 = .ok (.invokestatic 302, 3) := by decide +kernel
theorem dX11_name_116 : decode cX11_name 116 = .ok (.iastore, 1) := by decide +kernel
theorem dX11_name_117 : decode cX11_name 117 = .ok (.return_, 1) := by decide +kernel
theorem dX11_pressesOf_0 : decode cX11_pressesOf 0 = .ok (.aload_n 0, 1) := by decide +kernel
theorem dX11_pressesOf_1 : decode cX11_pressesOf 1 = .ok (.iload_n 1, 1) := by decide +kernel
theorem dX11_pressesOf_2 : decode cX11_pressesOf 2 = .ok (.invokevirtual 305, 3) := by decide +kernel
theorem dX11_pressesOf_5 : decode cX11_pressesOf 5 = .ok (.aload_n 0, 1) := by decide +kernel
theorem dX11_pressesOf_6 : decode cX11_pressesOf 6 = .ok (.aload_n 0, 1) := by decide +kernel
theorem dX11_pressesOf_7 : decode cX11_pressesOf 7 = .ok (.getfield 7, 3) := by decide +kernel
theorem dX11_pressesOf_10 : decode cX11_pressesOf 10 = .ok (.iconst 2, 1) := by decide +kernel
theorem dX11_pressesOf_11 : decode cX11_pressesOf 11 = .ok (.iaload, 1) := by decide +kernel
theorem dX11_pressesOf_12 : decode cX11_pressesOf 12 = .ok (.iconst 0, 1) := by decide +kernel
theorem dX11_pressesOf_13 : decode cX11_pressesOf 13 = .ok (.aload_n 0, 1) := by decide +kernel
theorem dX11_pressesOf_14 : decode cX11_pressesOf 14 = .ok (.getfield 32, 3) := by decide +kernel
theorem dX11_pressesOf_17 : decode cX11_pressesOf 17 = .ok (.iconst 3, 1) := by decide +kernel
theorem dX11_pressesOf_18 : decode cX11_pressesOf 18 = .ok (.iaload, 1) := by decide +kernel
theorem dX11_pressesOf_19 : decode cX11_pressesOf 19 = .ok (.iconst 2, 1) := by decide +kernel
theorem dX11_pressesOf_20 : decode cX11_pressesOf 20 = .ok (.if_icmp .ne 7, 3) := by decide +kernel
theorem dX11_pressesOf_23 : decode cX11_pressesOf 23 = .ok (.iconst 1, 1) := by decide +kernel
theorem dX11_pressesOf_24 : decode cX11_pressesOf 24 = .ok (.goto 12, 3) := by decide +kernel
theorem dX11_pressesOf_27 : decode cX11_pressesOf 27 = .ok (.aload_n 0, 1) := by decide +kernel
theorem dX11_pressesOf_28 : decode cX11_pressesOf 28 = .ok (.getfield 7, 3) := by decide +kernel
theorem dX11_pressesOf_31 : decode cX11_pressesOf 31 = .ok (.bipush 13, 2) := by decide +kernel
theorem dX11_pressesOf_33 : decode cX11_pressesOf 33 = .ok (.iaload, 1) := by decide +kernel
theorem dX11_pressesOf_34 : decode cX11_pressesOf 34 = .ok (.iconst 2, 1) := by decide +kernel
theorem dX11_pressesOf_35 : decode cX11_pressesOf 35 = .ok (.idiv, 1) := by decide +kernel
theorem dX11_pressesOf_36 : decode cX11_pressesOf 36 = .ok (.bipush 9, 2) := by decide +kernel
theorem dX11_pressesOf_38 : decode cX11_pressesOf 38 = .ok (.invokevirtual 308, 3) := by decide +kernel
theorem dX11_pressesOf_41 : decode cX11_pressesOf 41 = .ok (.ireturn, 1) := by decide +kernel
theorem dX11_scorchesOf_0 : decode cX11_scorchesOf 0 = .ok (.aload_n 0, 1) := by decide +kernel
theorem dX11_scorchesOf_1 : decode cX11_scorchesOf 1 = .ok (.iload_n 1, 1) := by decide +kernel
theorem dX11_scorchesOf_2 : decode cX11_scorchesOf 2 = .ok (.invokevirtual 305, 3) := by decide +kernel
theorem dX11_scorchesOf_5 : decode cX11_scorchesOf 5 = .ok (.aload_n 0, 1) := by decide +kernel
theorem dX11_scorchesOf_6 : decode cX11_scorchesOf 6 = .ok (.aload_n 0, 1) := by decide +kernel
theorem dX11_scorchesOf_7 : decode cX11_scorchesOf 7 = .ok (.getfield 7, 3) := by decide +kernel
theorem dX11_scorchesOf_10 : decode cX11_scorchesOf 10 = .ok (.iconst 2, 1) := by decide +kernel
theorem dX11_scorchesOf_11 : decode cX11_scorchesOf 11 = .ok (.iaload, 1) := by decide +kernel
theorem dX11_scorchesOf_12 : decode cX11_scorchesOf 12 = .ok (.iconst 1, 1) := by decide +kernel
theorem dX11_scorchesOf_13 : decode cX11_scorchesOf 13 = .ok (.aload_n 0, 1) := by decide +kernel
theorem dX11_scorchesOf_14 : decode cX11_scorchesOf 14 = .ok (.getfield 7, 3) := by decide +kernel
theorem dX11_scorchesOf_17 : decode cX11_scorchesOf 17 = .ok (.bipush 13, 2) := by decide +kernel
theorem dX11_scorchesOf_19 : decode cX11_scorchesOf 19 = .ok (.iaload, 1) := by decide +kernel
theorem dX11_scorchesOf_20 : decode cX11_scorchesOf 20 = .ok (.bipush 6, 2) := by decide +kernel
theorem dX11_scorchesOf_22 : decode cX11_scorchesOf 22 = .ok (.isub, 1) := by decide +kernel
theorem dX11_scorchesOf_23 : decode cX11_scorchesOf 23 = .ok (.bipush 10, 2) := by decide +kernel
theorem dX11_scorchesOf_25 : decode cX11_scorchesOf 25 = .ok (.invokevirtual 308, 3) := by decide +kernel
theorem dX11_scorchesOf_28 : decode cX11_scorchesOf 28 = .ok (.ireturn, 1) := by decide +kernel
theorem dX11_priceOf_0 : decode cX11_priceOf 0 = .ok (.aload_n 0, 1) := by decide +kernel
theorem dX11_priceOf_1 : decode cX11_priceOf 1 = .ok (.iload_n 2, 1) := by decide +kernel
theorem dX11_priceOf_2 : decode cX11_priceOf 2 = .ok (.invokevirtual 305, 3) := by decide +kernel
theorem dX11_priceOf_5 : decode cX11_priceOf 5 = .ok (.aload_n 0, 1) := by decide +kernel
theorem dX11_priceOf_6 : decode cX11_priceOf 6 = .ok (.iload_n 1, 1) := by decide +kernel
theorem dX11_priceOf_7 : decode cX11_priceOf 7 = .ok (.iconst 2, 1) := by decide +kernel
theorem dX11_priceOf_8 : decode cX11_priceOf 8 = .ok (.aload_n 0, 1) := by decide +kernel
theorem dX11_priceOf_9 : decode cX11_priceOf 9 = .ok (.getfield 32, 3) := by decide +kernel
theorem dX11_priceOf_12 : decode cX11_priceOf 12 = .ok (.iconst 5, 1) := by decide +kernel
theorem dX11_priceOf_13 : decode cX11_priceOf 13 = .ok (.iaload, 1) := by decide +kernel
theorem dX11_priceOf_14 : decode cX11_priceOf 14 = .ok (.sipush 9999, 3) := by decide +kernel
theorem dX11_priceOf_17 : decode cX11_priceOf 17 = .ok (.invokevirtual 308, 3) := by decide +kernel
theorem dX11_priceOf_20 : decode cX11_priceOf 20 = .ok (.ireturn, 1) := by decide +kernel
theorem dX11_write_0 : decode cX11_write 0 = .ok (.aload_n 0, 1) := by decide +kernel
theorem dX11_write_1 : decode cX11_write 1 = .ok (.getfield 7, 3) := by decide +kernel
theorem dX11_write_4 : decode cX11_write 4 = .ok (.bipush 12, 2) := by decide +kernel
theorem dX11_write_6 : decode cX11_write 6 = .ok (.iaload, 1) := by decide +kernel
theorem dX11_write_7 : decode cX11_write 7 = .ok (.bipush 30, 2) := by decide +kernel
theorem dX11_write_9 : decode cX11_write 9 = .ok (.if_icmp .ne 50, 3) := by decide +kernel
theorem dX11_write_12 : decode cX11_write 12 = .ok (.iconst 1, 1) := by decide +kernel
theorem dX11_write_13 : decode cX11_write 13 = .ok (.istore_n 3, 1) := by decide +kernel
theorem dX11_write_14 : decode cX11_write 14 = .ok (.iload_n 3, 1) := by decide +kernel
theorem dX11_write_15 : decode cX11_write 15 = .ok (.bipush 30, 2) := by decide +kernel
theorem dX11_write_17 : decode cX11_write 17 = .ok (.if_icmp .ge 31, 3) := by decide +kernel
theorem dX11_write_20 : decode cX11_write 20 = .ok (.aload_n 0, 1) := by decide +kernel
theorem dX11_write_21 : decode cX11_write 21 = .ok (.getfield 7, 3) := by decide +kernel
theorem dX11_write_24 : decode cX11_write 24 = .ok (.sipush 2112, 3) := by decide +kernel
theorem dX11_write_27 : decode cX11_write 27 = .ok (.iload_n 3, 1) := by decide +kernel
theorem dX11_write_28 : decode cX11_write 28 = .ok (.iadd, 1) := by decide +kernel
theorem dX11_write_29 : decode cX11_write 29 = .ok (.iconst 1, 1) := by decide +kernel
theorem dX11_write_30 : decode cX11_write 30 = .ok (.isub, 1) := by decide +kernel
theorem dX11_write_31 : decode cX11_write 31 = .ok (.aload_n 0, 1) := by decide +kernel
theorem dX11_write_32 : decode cX11_write 32 = .ok (.getfield 7, 3) := by decide +kernel
theorem dX11_write_35 : decode cX11_write 35 = .ok (.sipush 2112, 3) := by decide +kernel
theorem dX11_write_38 : decode cX11_write 38 = .ok (.iload_n 3, 1) := by decide +kernel
theorem dX11_write_39 : decode cX11_write 39 = .ok (.iadd, 1) := by decide +kernel
theorem dX11_write_40 : decode cX11_write 40 = .ok (.iaload, 1) := by decide +kernel
theorem dX11_write_41 : decode cX11_write 41 = .ok (.iastore, 1) := by decide +kernel
theorem dX11_write_42 : decode cX11_write 42 = .ok (.iinc 3 1, 3) := by decide +kernel
theorem dX11_write_45 : decode cX11_write 45 = .ok (.goto (-31), 3) := by decide +kernel
theorem dX11_write_48 : decode cX11_write 48 = .ok (.aload_n 0, 1) := by decide +kernel
theorem dX11_write_49 : decode cX11_write 49 = .ok (.getfield 7, 3) := by decide +kernel
theorem dX11_write_52 : decode cX11_write 52 = .ok (.bipush 12, 2) := by decide +kernel
theorem dX11_write_54 : decode cX11_write 54 = .ok (.dup2, 1) := by decide +kernel
theorem dX11_write_55 : decode cX11_write 55 = .ok (.iaload, 1) := by decide +kernel
theorem dX11_write_56 : decode cX11_write 56 = .ok (.iconst 1, 1) := by decide +kernel
theorem dX11_write_57 : decode cX11_write 57 = .ok (.isub, 1) := by decide +kernel
theorem dX11_write_58 : decode cX11_write 58 = .ok (.iastore, 1) := by decide +kernel
theorem dX11_write_59 : decode cX11_write 59 = .ok (.aload_n 0, 1) := by decide +kernel
theorem dX11_write_60 : decode cX11_write 60 = .ok (.getfield 7, 3) := by decide +kernel
theorem dX11_write_63 : decode cX11_write 63 = .ok (.sipush 2112, 3) := by decide +kernel
theorem dX11_write_66 : decode cX11_write 66 = .ok (.aload_n 0, 1) := by decide +kernel
theorem dX11_write_67 : decode cX11_write 67 = .ok (.getfield 7, 3) := by decide +kernel
theorem dX11_write_70 : decode cX11_write 70 = .ok (.bipush 12, 2) := by decide +kernel
theorem dX11_write_72 : decode cX11_write 72 = .ok (.iaload, 1) := by decide +kernel
theorem dX11_write_73 : decode cX11_write 73 = .ok (.iadd, 1) := by decide +kernel
theorem dX11_write_74 : decode cX11_write 74 = .ok (.aload_n 0, 1) := by decide +kernel
theorem dX11_write_75 : decode cX11_write 75 = .ok (.getfield 7, 3) := by decide +kernel
theorem dX11_write_78 : decode cX11_write 78 = .ok (.bipush 10, 2) := by decide +kernel
theorem dX11_write_80 : decode cX11_write 80 = .ok (.iaload, 1) := by decide +kernel
theorem dX11_write_81 : decode cX11_write 81 = .ok (.bipush 16, 2) := by decide +kernel
theorem dX11_write_83 : decode cX11_write 83 = .ok (.imul, 1) := by decide +kernel
theorem dX11_write_84 : decode cX11_write 84 = .ok (.iload_n 1, 1) := by decide +kernel
theorem dX11_write_85 : decode cX11_write 85 = .ok (.iadd, 1) := by decide +kernel
theorem dX11_write_86 : decode cX11_write 86 = .ok (.iconst 4, 1) := by decide +kernel
theorem dX11_write_87 : decode cX11_write 87 = .ok (.imul, 1) := by decide +kernel
theorem dX11_write_88 : decode cX11_write 88 = .ok (.iload_n 2, 1) := by decide +kernel
theorem dX11_write_89 : decode cX11_write 89 = .ok (.iadd, 1) := by decide +kernel
theorem dX11_write_90 : decode cX11_write 90 = .ok (.iastore, 1) := by decide +kernel
theorem dX11_write_91 : decode cX11_write 91 = .ok (.aload_n 0, 1) := by decide +kernel
theorem dX11_write_92 : decode cX11_write 92 = .ok (.getfield 7, 3) := by decide +kernel
theorem dX11_write_95 : decode cX11_write 95 = .ok (.bipush 12, 2) := by decide +kernel
theorem dX11_write_97 : decode cX11_write 97 = .ok (.dup2, 1) := by decide +kernel
theorem dX11_write_98 : decode cX11_write 98 = .ok (.iaload, 1) := by decide +kernel
theorem dX11_write_99 : decode cX11_write 99 = .ok (.iconst 1, 1) := by decide +kernel
theorem dX11_write_100 : decode cX11_write 100 = .ok (.iadd, 1) := by decide +kernel
theorem dX11_write_101 : decode cX11_write 101 = .ok (.iastore, 1) := by decide +kernel
theorem dX11_write_102 : decode cX11_write 102 = .ok (.return_, 1) := by decide +kernel
theorem dX11_anew_0 : decode cX11_anew 0 = .ok (.aload_n 0, 1) := by decide +kernel
theorem dX11_anew_1 : decode cX11_anew 1 = .ok (.getfield 7, 3) := by decide +kernel
theorem dX11_anew_4 : decode cX11_anew 4 = .ok (.bipush 11, 2) := by decide +kernel
theorem dX11_anew_6 : decode cX11_anew 6 = .ok (.aload_n 0, 1) := by decide +kernel
theorem dX11_anew_7 : decode cX11_anew 7 = .ok (.getfield 7, 3) := by decide +kernel
theorem dX11_anew_10 : decode cX11_anew 10 = .ok (.bipush 11, 2) := by decide +kernel
theorem dX11_anew_12 : decode cX11_anew 12 = .ok (.iaload, 1) := by decide +kernel
theorem dX11_anew_13 : decode cX11_anew 13 = .ok (.i2l, 1) := by decide +kernel
theorem dX11_anew_14 : decode cX11_anew 14 = .ok (.ldc2_w 312, 3) := by decide +kernel
theorem dX11_anew_17 : decode cX11_anew 17 = .ok (.lmul, 1) := by decide +kernel
theorem dX11_anew_18 : decode cX11_anew 18 = .ok (.ldc2_w 314, 3) := by decide +kernel
theorem dX11_anew_21 : decode cX11_anew 21 = .ok (.ladd, 1) := by decide +kernel
theorem dX11_anew_22 : decode cX11_anew 22 = .ok (.ldc2_w 316, 3) := by decide +kernel
theorem dX11_anew_25 : decode cX11_anew 25 = .ok (.lrem, 1) := by decide +kernel
theorem dX11_anew_26 : decode cX11_anew 26 = .ok (.l2i, 1) := by decide +kernel
theorem dX11_anew_27 : decode cX11_anew 27 = .ok (.iastore, 1) := by decide +kernel
theorem dX11_anew_28 : decode cX11_anew 28 = .ok (.return_, 1) := by decide +kernel
theorem dX11_become_0 : decode cX11_become 0 = .ok (.aload_n 0, 1) := by decide +kernel
theorem dX11_become_1 : decode cX11_become 1 = .ok (.iload_n 1, 1) := by decide +kernel
theorem dX11_become_2 : decode cX11_become 2 = .ok (.iconst 1, 1) := by decide +kernel
theorem dX11_become_3 : decode cX11_become 3 = .ok (.iload_n 2, 1) := by decide +kernel
theorem dX11_become_4 : decode cX11_become 4 = .ok (.invokevirtual 77, 3) := by decide +kernel
theorem dX11_become_7 : decode cX11_become 7 = .ok (.aload_n 0, 1) := by decide +kernel
theorem dX11_become_8 : decode cX11_become 8 = .ok (.iload_n 1, 1) := by decide +kernel
theorem dX11_become_9 : decode cX11_become 9 = .ok (.iconst 0, 1) := by decide +kernel
theorem dX11_become_10 : decode cX11_become 10 = .ok (.iload_n 3, 1) := by decide +kernel
theorem dX11_become_11 : decode cX11_become 11 = .ok (.invokevirtual 77, 3) := by decide +kernel
theorem dX11_become_14 : decode cX11_become 14 = .ok (.aload_n 0, 1) := by decide +kernel
theorem dX11_become_15 : decode cX11_become 15 = .ok (.iload_n 1, 1) := by decide +kernel
theorem dX11_become_16 : decode cX11_become 16 = .ok (.iload_n 2, 1) := by decide +kernel
theorem dX11_become_17 : decode cX11_become 17 = .ok (.ifCond .ne 7, 3) := by decide +kernel
theorem dX11_become_20 : decode cX11_become 20 = .ok (.iconst 2, 1) := by decide +kernel
theorem dX11_become_21 : decode cX11_become 21 = .ok (.goto 6, 3) := by decide +kernel
theorem dX11_become_24 : decode cX11_become 24 = .ok (.iload_n 2, 1) := by decide +kernel
theorem dX11_become_25 : decode cX11_become 25 = .ok (.iconst 1, 1) := by decide +kernel
theorem dX11_become_26 : decode cX11_become 26 = .ok (.isub, 1) := by decide +kernel
theorem dX11_become_27 : decode cX11_become 27 = .ok (.invokevirtual 318, 3) := by decide +kernel
theorem dX11_become_30 : decode cX11_become 30 = .ok (.return_, 1) := by decide +kernel
theorem dX11_pressNow_0 : decode cX11_pressNow 0 = .ok (.aload_n 0, 1) := by decide +kernel
theorem dX11_pressNow_1 : decode cX11_pressNow 1 = .ok (.iload_n 1, 1) := by decide +kernel
theorem dX11_pressNow_2 : decode cX11_pressNow 2 = .ok (.iconst 0, 1) := by decide +kernel
theorem dX11_pressNow_3 : decode cX11_pressNow 3 = .ok (.aload_n 0, 1) := by decide +kernel
theorem dX11_pressNow_4 : decode cX11_pressNow 4 = .ok (.iload_n 1, 1) := by decide +kernel
theorem dX11_pressNow_5 : decode cX11_pressNow 5 = .ok (.iconst 0, 1) := by decide +kernel
theorem dX11_pressNow_6 : decode cX11_pressNow 6 = .ok (.invokevirtual 66, 3) := by decide +kernel
theorem dX11_pressNow_9 : decode cX11_pressNow 9 = .ok (.aload_n 0, 1) := by decide +kernel
theorem dX11_pressNow_10 : decode cX11_pressNow 10 = .ok (.iload_n 1, 1) := by decide +kernel
theorem dX11_pressNow_11 : decode cX11_pressNow 11 = .ok (.invokevirtual 321, 3) := by decide +kernel
theorem dX11_pressNow_14 : decode cX11_pressNow 14 = .ok (.isub, 1) := by decide +kernel
theorem dX11_pressNow_15 : decode cX11_pressNow 15 = .ok (.i2l, 1) := by decide +kernel
theorem dX11_pressNow_16 : decode cX11_pressNow 16 = .ok (.iconst 0, 1) := by decide +kernel
theorem dX11_pressNow_17 : decode cX11_pressNow 17 = .ok (.bipush 9, 2) := by decide +kernel
theorem dX11_pressNow_19 : decode cX11_pressNow 19 = .ok (.invokestatic 292, 3) := by decide +kernel
theorem dX11_pressNow_22 : decode cX11_pressNow 22 = .ok (.invokevirtual 77, 3) := by decide +kernel
theorem dX11_pressNow_25 : decode cX11_pressNow 25 = .ok (.aload_n 0, 1) := by decide +kernel
theorem dX11_pressNow_26 : decode cX11_pressNow 26 = .ok (.getfield 7, 3) := by decide +kernel
theorem dX11_pressNow_29 : decode cX11_pressNow 29 = .ok (.bipush 11, 2) := by decide +kernel
theorem dX11_pressNow_31 : decode cX11_pressNow 31 = .ok (.iaload, 1) := by decide +kernel
theorem dX11_pressNow_32 : decode cX11_pressNow 32 = .ok (.bipush 10, 2) := by decide +kernel
theorem dX11_pressNow_34 : decode cX11_pressNow 34 = .ok (.irem, 1) := by decide +kernel
theorem dX11_pressNow_35 : decode cX11_pressNow 35 = .ok (.aload_n 0, 1) := by decide +kernel
theorem dX11_pressNow_36 : decode cX11_pressNow 36 = .ok (.iload_n 1, 1) := by decide +kernel
theorem dX11_pressNow_37 : decode cX11_pressNow 37 = .ok (.invokevirtual 324, 3) := by decide +kernel
theorem dX11_pressNow_40 : decode cX11_pressNow 40 = .ok (.if_icmp .ge 7, 3) := by decide +kernel
theorem dX11_pressNow_43 : decode cX11_pressNow 43 = .ok (.iconst 1, 1) := by decide +kernel
theorem dX11_pressNow_44 : decode cX11_pressNow 44 = .ok (.goto 4, 3) := by decide +kernel
theorem dX11_pressNow_47 : decode cX11_pressNow 47 = .ok (.iconst 0, 1) := by decide +kernel
theorem dX11_pressNow_48 : decode cX11_pressNow 48 = .ok (.istore_n 2, 1) := by decide +kernel
theorem dX11_pressNow_49 : decode cX11_pressNow 49 = .ok (.aload_n 0, 1) := by decide +kernel
theorem dX11_pressNow_50 : decode cX11_pressNow 50 = .ok (.invokevirtual 327, 3) := by decide +kernel
theorem dX11_pressNow_53 : decode cX11_pressNow 53 = .ok (.aload_n 0, 1) := by decide +kernel
theorem dX11_pressNow_54 : decode cX11_pressNow 54 = .ok (.iload_n 1, 1) := by decide +kernel
theorem dX11_pressNow_55 : decode cX11_pressNow 55 = .ok (.invokevirtual 299, 3) := by decide +kernel
theorem dX11_pressNow_58 : decode cX11_pressNow 58 = .ok (.istore_n 3, 1) := by decide +kernel
theorem dX11_pressNow_59 : decode cX11_pressNow 59 = .ok (.iload_n 2, 1) := by decide +kernel
theorem dX11_pressNow_60 : decode cX11_pressNow 60 = .ok (.ifCond .eq 13, 3) := by decide +kernel
theorem dX11_pressNow_63 : decode cX11_pressNow 63 = .ok (.aload_n 0, 1) := by decide +kernel
theorem dX11_pressNow_64 : decode cX11_pressNow 64 = .ok (.iload_n 1, 1) := by decide +kernel
theorem dX11_pressNow_65 : decode cX11_pressNow 65 = .ok (.iconst 2, 1) := by decide +kernel
theorem dX11_pressNow_66 : decode cX11_pressNow 66 = .ok (.iconst 0, 1) := by decide +kernel
theorem dX11_pressNow_67 : decode cX11_pressNow 67 = .ok (.invokevirtual 330, 3) := by decide +kernel
theorem dX11_pressNow_70 : decode cX11_pressNow 70 = .ok (.goto 59, 3) := by decide +kernel
theorem dX11_pressNow_73 : decode cX11_pressNow 73 = .ok (.aload_n 0, 1) := by decide +kernel
theorem dX11_pressNow_74 : decode cX11_pressNow 74 = .ok (.iload_n 1, 1) := by decide +kernel
theorem dX11_pressNow_75 : decode cX11_pressNow 75 = .ok (.iconst 0, 1) := by decide +kernel
theorem dX11_pressNow_76 : decode cX11_pressNow 76 = .ok (.invokevirtual 66, 3) := by decide +kernel
theorem dX11_pressNow_79 : decode cX11_pressNow 79 = .ok (.ifCond .ne 50, 3) := by decide +kernel
theorem dX11_pressNow_82 : decode cX11_pressNow 82 = .ok (.iconst 0, 1) := by decide +kernel
theorem dX11_pressNow_83 : decode cX11_pressNow 83 = .ok (.istore 4, 2) := by decide +kernel
theorem dX11_pressNow_85 : decode cX11_pressNow 85 = .ok (.iload 4, 2) := by decide +kernel
theorem dX11_pressNow_87 : decode cX11_pressNow 87 = .ok (.aload_n 0, 1) := by decide +kernel
theorem dX11_pressNow_88 : decode cX11_pressNow 88 = .ok (.getfield 7, 3) := by decide +kernel
theorem dX11_pressNow_91 : decode cX11_pressNow 91 = .ok (.bipush 14, 2) := by decide +kernel
theorem dX11_pressNow_93 : decode cX11_pressNow 93 = .ok (.iaload, 1) := by decide +kernel
theorem dX11_pressNow_94 : decode cX11_pressNow 94 = .ok (.if_icmp .ge 35, 3) := by decide +kernel
theorem dX11_pressNow_97 : decode cX11_pressNow 97 = .ok (.iload_n 3, 1) := by decide +kernel
theorem dX11_pressNow_98 : decode cX11_pressNow 98 = .ok (.iload 4, 2) := by decide +kernel
theorem dX11_pressNow_100 : decode cX11_pressNow 100 = .ok (.invokestatic 84, 3) := by decide +kernel
theorem dX11_pressNow_103 : decode cX11_pressNow 103 = .ok (.ifCond .eq 20, 3) := by decide +kernel
theorem dX11_pressNow_106 : decode cX11_pressNow 106 = .ok (.aload_n 0, 1) := by decide +kernel
theorem dX11_pressNow_107 : decode cX11_pressNow 107 = .ok (.iload 4, 2) := by decide +kernel
theorem dX11_pressNow_109 : decode cX11_pressNow 109 = .ok (.invokevirtual 70, 3) := by decide +kernel
theorem dX11_pressNow_112 : decode cX11_pressNow 112 = .ok (.ifCond .eq 11, 3) := by decide +kernel
theorem dX11_pressNow_115 : decode cX11_pressNow 115 = .ok (.aload_n 0, 1) := by decide +kernel
theorem dX11_pressNow_116 : decode cX11_pressNow 116 = .ok (.iload 4, 2) := by decide +kernel
theorem dX11_pressNow_118 : decode cX11_pressNow 118 = .ok (.iconst 1, 1) := by decide +kernel
theorem dX11_pressNow_119 : decode cX11_pressNow 119 = .ok (.iconst 0, 1) := by decide +kernel
theorem dX11_pressNow_120 : decode cX11_pressNow 120 = .ok (.invokevirtual 330, 3) := by decide +kernel
theorem dX11_pressNow_123 : decode cX11_pressNow 123 = .ok (.iinc 4 1, 3) := by decide +kernel
theorem dX11_pressNow_126 : decode cX11_pressNow 126 = .ok (.goto (-41), 3) := by decide +kernel
theorem dX11_pressNow_129 : decode cX11_pressNow 129 = .ok (.bipush 99, 2) := by decide +kernel
theorem dX11_pressNow_131 : decode cX11_pressNow 131 = .ok (.iconst 3, 1) := by decide +kernel
theorem dX11_pressNow_132 : decode cX11_pressNow 132 = .ok (.aload_n 0, 1) := by decide +kernel
theorem dX11_pressNow_133 : decode cX11_pressNow 133 = .ok (.iload_n 1, 1) := by decide +kernel
theorem dX11_pressNow_134 : decode cX11_pressNow 134 = .ok (.iconst 2, 1) := by decide +kernel
theorem dX11_pressNow_135 : decode cX11_pressNow 135 = .ok (.invokevirtual 66, 3) := by decide +kernel
theorem dX11_pressNow_138 : decode cX11_pressNow 138 = .ok (.imul, 1) := by decide +kernel
theorem dX11_pressNow_139 : decode cX11_pressNow 139 = .ok (.iadd, 1) := by decide +kernel
theorem dX11_pressNow_140 : decode cX11_pressNow 140 = .ok (.istore 4, 2) := by decide +kernel
theorem dX11_pressNow_142 : decode cX11_pressNow 142 = .ok (.aload_n 0, 1) := by decide +kernel
theorem dX11_pressNow_143 : decode cX11_pressNow 143 = .ok (.getfield 7, 3) := by decide +kernel
theorem dX11_pressNow_146 : decode cX11_pressNow 146 = .ok (.iload 4, 2) := by decide +kernel
theorem dX11_pressNow_148 : decode cX11_pressNow 148 = .ok (.aload_n 0, 1) := by decide +kernel
theorem dX11_pressNow_149 : decode cX11_pressNow 149 = .ok (.getfield 7, 3) := by decide +kernel
theorem dX11_pressNow_152 : decode cX11_pressNow 152 = .ok (.iload 4, 2) := by decide +kernel
theorem dX11_pressNow_154 : decode cX11_pressNow 154 = .ok (.iaload, 1) := by decide +kernel
theorem dX11_pressNow_155 : decode cX11_pressNow 155 = .ok (.aload_n 0, 1) := by decide +kernel
