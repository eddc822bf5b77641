/-! decode rows of the law, as printed -/
theorem dL_next_0 : decode cL_next 0 = .ok (.iconst (-1), 1) := by decide +kernel
theorem dL_next_1 : decode cL_next 1 = .ok (.istore 6, 2) := by decide +kernel
theorem dL_next_3 : decode cL_next 3 = .ok (.iconst 0, 1) := by decide +kernel
theorem dL_next_4 : decode cL_next 4 = .ok (.istore 7, 2) := by decide +kernel
theorem dL_next_6 : decode cL_next 6 = .ok (.iload 7, 2) := by decide +kernel
theorem dL_next_8 : decode cL_next 8 = .ok (.aload_n 0, 1) := by decide +kernel
theorem dL_next_9 : decode cL_next 9 = .ok (.iconst 0, 1) := by decide +kernel
theorem dL_next_10 : decode cL_next 10 = .ok (.iaload, 1) := by decide +kernel
theorem dL_next_11 : decode cL_next 11 = .ok (.if_icmp .ge 125, 3) := by decide +kernel
theorem dL_next_14 : decode cL_next 14 = .ok (.bipush 8, 2) := by decide +kernel
theorem dL_next_16 : decode cL_next 16 = .ok (.aload_n 2, 1) := by decide +kernel
theorem dL_next_17 : decode cL_next 17 = .ok (.iload 7, 2) := by decide +kernel
theorem dL_next_19 : decode cL_next 19 = .ok (.iaload, 1) := by decide +kernel
theorem dL_next_20 : decode cL_next 20 = .ok (.imul, 1) := by decide +kernel
theorem dL_next_21 : decode cL_next 21 = .ok (.aload_n 1, 1) := by decide +kernel
theorem dL_next_22 : decode cL_next 22 = .ok (.iload 7, 2) := by decide +kernel
theorem dL_next_24 : decode cL_next 24 = .ok (.iaload, 1) := by decide +kernel
theorem dL_next_25 : decode cL_next 25 = .ok (.bipush 8, 2) := by decide +kernel
theorem dL_next_27 : decode cL_next 27 = .ok (.idiv, 1) := by decide +kernel
theorem dL_next_28 : decode cL_next 28 = .ok (.bipush 8, 2) := by decide +kernel
theorem dL_next_30 : decode cL_next 30 = .ok (.irem, 1) := by decide +kernel
theorem dL_next_31 : decode cL_next 31 = .ok (.iadd, 1) := by decide +kernel
theorem dL_next_32 : decode cL_next 32 = .ok (.istore 8, 2) := by decide +kernel
theorem dL_next_34 : decode cL_next 34 = .ok (.iload 4, 2) := by decide +kernel
theorem dL_next_36 : decode cL_next 36 = .ok (.iconst 4, 1) := by decide +kernel
theorem dL_next_37 : decode cL_next 37 = .ok (.if_icmp .gt 16, 3) := by decide +kernel
theorem dL_next_40 : decode cL_next 40 = .ok (.aload_n 3, 1) := by decide +kernel
theorem dL_next_41 : decode cL_next 41 = .ok (.iload 7, 2) := by decide +kernel
theorem dL_next_43 : decode cL_next 43 = .ok (.iaload, 1) := by decide +kernel
theorem dL_next_44 : decode cL_next 44 = .ok (.iload 4, 2) := by decide +kernel
theorem dL_next_46 : decode cL_next 46 = .ok (.ishr, 1) := by decide +kernel
theorem dL_next_47 : decode cL_next 47 = .ok (.iconst 1, 1) := by decide +kernel
theorem dL_next_48 : decode cL_next 48 = .ok (.iand, 1) := by decide +kernel
theorem dL_next_49 : decode cL_next 49 = .ok (.iconst 1, 1) := by decide +kernel
theorem dL_next_50 : decode cL_next 50 = .ok (.if_icmp .ne 35, 3) := by decide +kernel
theorem dL_next_53 : decode cL_next 53 = .ok (.iload 5, 2) := by decide +kernel
theorem dL_next_55 : decode cL_next 55 = .ok (.ifCond .lt 26, 3) := by decide +kernel
theorem dL_next_58 : decode cL_next 58 = .ok (.iload 8, 2) := by decide +kernel
theorem dL_next_60 : decode cL_next 60 = .ok (.bipush 8, 2) := by decide +kernel
theorem dL_next_62 : decode cL_next 62 = .ok (.aload_n 2, 1) := by decide +kernel
theorem dL_next_63 : decode cL_next 63 = .ok (.iload 5, 2) := by decide +kernel
theorem dL_next_65 : decode cL_next 65 = .ok (.iaload, 1) := by decide +kernel
theorem dL_next_66 : decode cL_next 66 = .ok (.imul, 1) := by decide +kernel
theorem dL_next_67 : decode cL_next 67 = .ok (.aload_n 1, 1) := by decide +kernel
theorem dL_next_68 : decode cL_next 68 = .ok (.iload 5, 2) := by decide +kernel
theorem dL_next_70 : decode cL_next 70 = .ok (.iaload, 1) := by decide +kernel
theorem dL_next_71 : decode cL_next 71 = .ok (.bipush 8, 2) := by decide +kernel
theorem dL_next_73 : decode cL_next 73 = .ok (.idiv, 1) := by decide +kernel
theorem dL_next_74 : decode cL_next 74 = .ok (.bipush 8, 2) := by decide +kernel
theorem dL_next_76 : decode cL_next 76 = .ok (.irem, 1) := by decide +kernel
theorem dL_next_77 : decode cL_next 77 = .ok (.iadd, 1) := by decide +kernel
theorem dL_next_78 : decode cL_next 78 = .ok (.if_icmp .le 7, 3) := by decide +kernel
theorem dL_next_81 : decode cL_next 81 = .ok (.iconst 1, 1) := by decide +kernel
theorem dL_next_82 : decode cL_next 82 = .ok (.goto 4, 3) := by decide +kernel
theorem dL_next_85 : decode cL_next 85 = .ok (.iconst 0, 1) := by decide +kernel
theorem dL_next_86 : decode cL_next 86 = .ok (.istore 9, 2) := by decide +kernel
theorem dL_next_88 : decode cL_next 88 = .ok (.iload 9, 2) := by decide +kernel
theorem dL_next_90 : decode cL_next 90 = .ok (.ifCond .eq 36, 3) := by decide +kernel
theorem dL_next_93 : decode cL_next 93 = .ok (.iload 6, 2) := by decide +kernel
theorem dL_next_95 : decode cL_next 95 = .ok (.ifCond .lt 26, 3) := by decide +kernel
theorem dL_next_98 : decode cL_next 98 = .ok (.iload 8, 2) := by decide +kernel
theorem dL_next_100 : decode cL_next 100 = .ok (.bipush 8, 2) := by decide +kernel
theorem dL_next_102 : decode cL_next 102 = .ok (.aload_n 2, 1) := by decide +kernel
theorem dL_next_103 : decode cL_next 103 = .ok (.iload 6, 2) := by decide +kernel
theorem dL_next_105 : decode cL_next 105 = .ok (.iaload, 1) := by decide +kernel
theorem dL_next_106 : decode cL_next 106 = .ok (.imul, 1) := by decide +kernel
theorem dL_next_107 : decode cL_next 107 = .ok (.aload_n 1, 1) := by decide +kernel
theorem dL_next_108 : decode cL_next 108 = .ok (.iload 6, 2) := by decide +kernel
theorem dL_next_110 : decode cL_next 110 = .ok (.iaload, 1) := by decide +kernel
theorem dL_next_111 : decode cL_next 111 = .ok (.bipush 8, 2) := by decide +kernel
theorem dL_next_113 : decode cL_next 113 = .ok (.idiv, 1) := by decide +kernel
theorem dL_next_114 : decode cL_next 114 = .ok (.bipush 8, 2) := by decide +kernel
theorem dL_next_116 : decode cL_next 116 = .ok (.irem, 1) := by decide +kernel
theorem dL_next_117 : decode cL_next 117 = .ok (.iadd, 1) := by decide +kernel
theorem dL_next_118 : decode cL_next 118 = .ok (.if_icmp .ge 8, 3) := by decide +kernel
theorem dL_next_121 : decode cL_next 121 = .ok (.iload 7, 2) := by decide +kernel
theorem dL_next_123 : decode cL_next 123 = .ok (.goto 5, 3) := by decide +kernel
theorem dL_next_126 : decode cL_next 126 = .ok (.iload 6, 2) := by decide +kernel
theorem dL_next_128 : decode cL_next 128 = .ok (.istore 6, 2) := by decide +kernel
theorem dL_next_130 : decode cL_next 130 = .ok (.iinc 7 1, 3) := by decide +kernel
theorem dL_next_133 : decode cL_next 133 = .ok (.goto (-127), 3) := by decide +kernel
theorem dL_next_136 : decode cL_next 136 = .ok (.iload 6, 2) := by decide +kernel
theorem dL_next_138 : decode cL_next 138 = .ok (.ireturn, 1) := by decide +kernel
theorem dL_lays_0 : decode cL_lays 0 = .ok (.iconst 0, 1) := by decide +kernel
theorem dL_lays_1 : decode cL_lays 1 = .ok (.istore 9, 2) := by decide +kernel
theorem dL_lays_3 : decode cL_lays 3 = .ok (.iload 9, 2) := by decide +kernel
theorem dL_lays_5 : decode cL_lays 5 = .ok (.bipush 40, 2) := by decide +kernel
theorem dL_lays_7 : decode cL_lays 7 = .ok (.if_icmp .ge 27, 3) := by decide +kernel
theorem dL_lays_10 : decode cL_lays 10 = .ok (.aload 6, 2) := by decide +kernel
theorem dL_lays_12 : decode cL_lays 12 = .ok (.iload 9, 2) := by decide +kernel
theorem dL_lays_14 : decode cL_lays 14 = .ok (.iconst 0, 1) := by decide +kernel
theorem dL_lays_15 : decode cL_lays 15 = .ok (.iastore, 1) := by decide +kernel
theorem dL_lays_16 : decode cL_lays 16 = .ok (.aload 7, 2) := by decide +kernel
theorem dL_lays_18 : decode cL_lays 18 = .ok (.iload 9, 2) := by decide +kernel
theorem dL_lays_20 : decode cL_lays 20 = .ok (.iconst 0, 1) := by decide +kernel
theorem dL_lays_21 : decode cL_lays 21 = .ok (.iastore, 1) := by decide +kernel
theorem dL_lays_22 : decode cL_lays 22 = .ok (.aload 8, 2) := by decide +kernel
theorem dL_lays_24 : decode cL_lays 24 = .ok (.iload 9, 2) := by decide +kernel
theorem dL_lays_26 : decode cL_lays 26 = .ok (.iconst 0, 1) := by decide +kernel
theorem dL_lays_27 : decode cL_lays 27 = .ok (.iastore, 1) := by decide +kernel
theorem dL_lays_28 : decode cL_lays 28 = .ok (.iinc 9 1, 3) := by decide +kernel
theorem dL_lays_31 : decode cL_lays 31 = .ok (.goto (-28), 3) := by decide +kernel
theorem dL_lays_34 : decode cL_lays 34 = .ok (.iconst 0, 1) := by decide +kernel
theorem dL_lays_35 : decode cL_lays 35 = .ok (.istore 9, 2) := by decide +kernel
theorem dL_lays_37 : decode cL_lays 37 = .ok (.aload_n 0, 1) := by decide +kernel
theorem dL_lays_38 : decode cL_lays 38 = .ok (.aload_n 1, 1) := by decide +kernel
theorem dL_lays_39 : decode cL_lays 39 = .ok (.aload_n 2, 1) := by decide +kernel
theorem dL_lays_40 : decode cL_lays 40 = .ok (.aload_n 3, 1) := by decide +kernel
theorem dL_lays_41 : decode cL_lays 41 = .ok (.iload 5, 2) := by decide +kernel
theorem dL_lays_43 : decode cL_lays 43 = .ok (.iconst (-1), 1) := by decide +kernel
theorem dL_lays_44 : decode cL_lays 44 = .ok (.invokestatic 7, 3) := by decide +kernel
theorem dL_lays_47 : decode cL_lays 47 = .ok (.istore 10, 2) := by decide +kernel
theorem dL_lays_49 : decode cL_lays 49 = .ok (.iload 10, 2) := by decide +kernel
theorem dL_lays_51 : decode cL_lays 51 = .ok (.ifCond .lt 206, 3) := by decide +kernel
theorem dL_lays_54 : decode cL_lays 54 = .ok (.aload_n 1, 1) := by decide +kernel
theorem dL_lays_55 : decode cL_lays 55 = .ok (.iload 10, 2) := by decide +kernel
theorem dL_lays_57 : decode cL_lays 57 = .ok (.iaload, 1) := by decide +kernel
theorem dL_lays_58 : decode cL_lays 58 = .ok (.bipush 8, 2) := by decide +kernel
theorem dL_lays_60 : decode cL_lays 60 = .ok (.irem, 1) := by decide +kernel
theorem dL_lays_61 : decode cL_lays 61 = .ok (.istore 11, 2) := by decide +kernel
theorem dL_lays_63 : decode cL_lays 63 = .ok (.aload_n 1, 1) := by decide +kernel
theorem dL_lays_64 : decode cL_lays 64 = .ok (.iload 10, 2) := by decide +kernel
theorem dL_lays_66 : decode cL_lays 66 = .ok (.iaload, 1) := by decide +kernel
theorem dL_lays_67 : decode cL_lays 67 = .ok (.bipush 64, 2) := by decide +kernel
theorem dL_lays_69 : decode cL_lays 69 = .ok (.idiv, 1) := by decide +kernel
theorem dL_lays_70 : decode cL_lays 70 = .ok (.istore 12, 2) := by decide +kernel
theorem dL_lays_72 : decode cL_lays 72 = .ok (.iload 11, 2) := by decide +kernel
theorem dL_lays_74 : decode cL_lays 74 = .ok (.ifCond .ne 23, 3) := by decide +kernel
theorem dL_lays_77 : decode cL_lays 77 = .ok (.aload 6, 2) := by decide +kernel
theorem dL_lays_79 : decode cL_lays 79 = .ok (.iload 12, 2) := by decide +kernel
theorem dL_lays_81 : decode cL_lays 81 = .ok (.aload_n 1, 1) := by decide +kernel
theorem dL_lays_82 : decode cL_lays 82 = .ok (.iload 10, 2) := by decide +kernel
theorem dL_lays_84 : decode cL_lays 84 = .ok (.iaload, 1) := by decide +kernel
theorem dL_lays_85 : decode cL_lays 85 = .ok (.bipush 8, 2) := by decide +kernel
theorem dL_lays_87 : decode cL_lays 87 = .ok (.idiv, 1) := by decide +kernel
theorem dL_lays_88 : decode cL_lays 88 = .ok (.bipush 8, 2) := by decide +kernel
theorem dL_lays_90 : decode cL_lays 90 = .ok (.irem, 1) := by decide +kernel
theorem dL_lays_91 : decode cL_lays 91 = .ok (.iconst 1, 1) := by decide +kernel
theorem dL_lays_92 : decode cL_lays 92 = .ok (.iadd, 1) := by decide +kernel
theorem dL_lays_93 : decode cL_lays 93 = .ok (.iastore, 1) := by decide +kernel
theorem dL_lays_94 : decode cL_lays 94 = .ok (.goto 147, 3) := by decide +kernel
theorem dL_lays_97 : decode cL_lays 97 = .ok (.iload 11, 2) := by decide +kernel
theorem dL_lays_99 : decode cL_lays 99 = .ok (.iconst 1, 1) := by decide +kernel
theorem dL_lays_100 : decode cL_lays 100 = .ok (.if_icmp .ne 49, 3) := by decide +kernel
theorem dL_lays_103 : decode cL_lays 103 = .ok (.aload 8, 2) := by decide +kernel
theorem dL_lays_105 : decode cL_lays 105 = .ok (.bipush 11, 2) := by decide +kernel
theorem dL_lays_107 : decode cL_lays 107 = .ok (.dup2, 1) := by decide +kernel
theorem dL_lays_108 : decode cL_lays 108 = .ok (.iaload, 1) := by decide +kernel
theorem dL_lays_109 : decode cL_lays 109 = .ok (.aload 4, 2) := by decide +kernel
theorem dL_lays_111 : decode cL_lays 111 = .ok (.iload 10, 2) := by decide +kernel
theorem dL_lays_113 : decode cL_lays 113 = .ok (.iaload, 1) := by decide +kernel
theorem dL_lays_114 : decode cL_lays 114 = .ok (.ifCond .le 23, 3) := by decide +kernel
theorem dL_lays_117 : decode cL_lays 117 = .ok (.aload 6, 2) := by decide +kernel
theorem dL_lays_119 : decode cL_lays 119 = .ok (.iload 12, 2) := by decide +kernel
theorem dL_lays_121 : decode cL_lays 121 = .ok (.iaload, 1) := by decide +kernel
theorem dL_lays_122 : decode cL_lays 122 = .ok (.ifCond .ne 15, 3) := by decide +kernel
theorem dL_lays_125 : decode cL_lays 125 = .ok (.iconst 1, 1) := by decide +kernel
theorem dL_lays_126 : decode cL_lays 126 = .ok (.aload 4, 2) := by decide +kernel
theorem dL_lays_128 : decode cL_lays 128 = .ok (.iload 10, 2) := by decide +kernel
theorem dL_lays_130 : decode cL_lays 130 = .ok (.iaload, 1) := by decide +kernel
theorem dL_lays_131 : decode cL_lays 131 = .ok (.iconst 1, 1) := by decide +kernel
theorem dL_lays_132 : decode cL_lays 132 = .ok (.isub, 1) := by decide +kernel
theorem dL_lays_133 : decode cL_lays 133 = .ok (.ishl, 1) := by decide +kernel
theorem dL_lays_134 : decode cL_lays 134 = .ok (.goto 4, 3) := by decide +kernel
theorem dL_lays_137 : decode cL_lays 137 = .ok (.iconst 0, 1) := by decide +kernel
theorem dL_lays_138 : decode cL_lays 138 = .ok (.ior, 1) := by decide +kernel
theorem dL_lays_139 : decode cL_lays 139 = .ok (.iastore, 1) := by decide +kernel
theorem dL_lays_140 : decode cL_lays 140 = .ok (.aload 6, 2) := by decide +kernel
theorem dL_lays_142 : decode cL_lays 142 = .ok (.iload 12, 2) := by decide +kernel
theorem dL_lays_144 : decode cL_lays 144 = .ok (.iconst 0, 1) := by decide +kernel
theorem dL_lays_145 : decode cL_lays 145 = .ok (.iastore, 1) := by decide +kernel
theorem dL_lays_146 : decode cL_lays 146 = .ok (.goto 95, 3) := by decide +kernel
theorem dL_lays_149 : decode cL_lays 149 = .ok (.iload 11, 2) := by decide +kernel
theorem dL_lays_151 : decode cL_lays 151 = .ok (.iconst 2, 1) := by decide +kernel
theorem dL_lays_152 : decode cL_lays 152 = .ok (.if_icmp .ne 15, 3) := by decide +kernel
theorem dL_lays_155 : decode cL_lays 155 = .ok (.aload 8, 2) := by decide +kernel
theorem dL_lays_157 : decode cL_lays 157 = .ok (.iload 12, 2) := by decide +kernel
theorem dL_lays_159 : decode cL_lays 159 = .ok (.iload 10, 2) := by decide +kernel
theorem dL_lays_161 : decode cL_lays 161 = .ok (.iconst 1, 1) := by decide +kernel
theorem dL_lays_162 : decode cL_lays 162 = .ok (.iadd, 1) := by decide +kernel
theorem dL_lays_163 : decode cL_lays 163 = .ok (.iastore, 1) := by decide +kernel
theorem dL_lays_164 : decode cL_lays 164 = .ok (.goto 77, 3) := by decide +kernel
theorem dL_lays_167 : decode cL_lays 167 = .ok (.iload 11, 2) := by decide +kernel
theorem dL_lays_169 : decode cL_lays 169 = .ok (.iconst 3, 1) := by decide +kernel
theorem dL_lays_170 : decode cL_lays 170 = .ok (.if_icmp .ne 31, 3) := by decide +kernel
theorem dL_lays_173 : decode cL_lays 173 = .ok (.aload 8, 2) := by decide +kernel
theorem dL_lays_175 : decode cL_lays 175 = .ok (.bipush 8, 2) := by decide +kernel
theorem dL_lays_177 : decode cL_lays 177 = .ok (.dup2, 1) := by decide +kernel
theorem dL_lays_178 : decode cL_lays 178 = .ok (.iaload, 1) := by decide +kernel
theorem dL_lays_179 : decode cL_lays 179 = .ok (.iconst 1, 1) := by decide +kernel
theorem dL_lays_180 : decode cL_lays 180 = .ok (.iload 12, 2) := by decide +kernel
theorem dL_lays_182 : decode cL_lays 182 = .ok (.ishl, 1) := by decide +kernel
theorem dL_lays_183 : decode cL_lays 183 = .ok (.ior, 1) := by decide +kernel
theorem dL_lays_184 : decode cL_lays 184 = .ok (.iastore, 1) := by decide +kernel
theorem dL_lays_185 : decode cL_lays 185 = .ok (.aload 8, 2) := by decide +kernel
theorem dL_lays_187 : decode cL_lays 187 = .ok (.bipush 12, 2) := by decide +kernel
theorem dL_lays_189 : decode cL_lays 189 = .ok (.iload 12, 2) := by decide +kernel
theorem dL_lays_191 : decode cL_lays 191 = .ok (.iadd, 1) := by decide +kernel
theorem dL_lays_192 : decode cL_lays 192 = .ok (.iload 9, 2) := by decide +kernel
theorem dL_lays_194 : decode cL_lays 194 = .ok (.iastore, 1) := by decide +kernel
theorem dL_lays_195 : decode cL_lays 195 = .ok (.iinc 9 1, 3) := by decide +kernel
theorem dL_lays_198 : decode cL_lays 198 = .ok (.goto 43, 3) := by decide +kernel
theorem dL_lays_201 : decode cL_lays 201 = .ok (.iload 11, 2) := by decide +kernel
theorem dL_lays_203 : decode cL_lays 203 = .ok (.iconst 4, 1) := by decide +kernel
theorem dL_lays_204 : decode cL_lays 204 = .ok (.if_icmp .ne 23, 3) := by decide +kernel
theorem dL_lays_207 : decode cL_lays 207 = .ok (.aload 7, 2) := by decide +kernel
theorem dL_lays_209 : decode cL_lays 209 = .ok (.iload 12, 2) := by decide +kernel
theorem dL_lays_211 : decode cL_lays 211 = .ok (.dup2, 1) := by decide +kernel
theorem dL_lays_212 : decode cL_lays 212 = .ok (.iaload, 1) := by decide +kernel
theorem dL_lays_213 : decode cL_lays 213 = .ok (.iconst 1, 1) := by decide +kernel
theorem dL_lays_214 : decode cL_lays 214 = .ok (.aload 4, 2) := by decide +kernel
theorem dL_lays_216 : decode cL_lays 216 = .ok (.iload 10, 2) := by decide +kernel
theorem dL_lays_218 : decode cL_lays 218 = .ok (.iaload, 1) := by decide +kernel
theorem dL_lays_219 : decode cL_lays 219 = .ok (.iconst 1, 1) := by decide +kernel
theorem dL_lays_220 : decode cL_lays 220 = .ok (.isub, 1) := by decide +kernel
theorem dL_lays_221 : decode cL_lays 221 = .ok (.ishl, 1) := by decide +kernel
theorem dL_lays_222 : decode cL_lays 222 = .ok (.ior, 1) := by decide +kernel
theorem dL_lays_223 : decode cL_lays 223 = .ok (.iastore, 1) := by decide +kernel
theorem dL_lays_224 : decode cL_lays 224 = .ok (.goto 17, 3) := by decide +kernel
theorem dL_lays_227 : decode cL_lays 227 = .ok (.aload 8, 2) := by decide +kernel
theorem dL_lays_229 : decode cL_lays 229 = .ok (.iload 11, 2) := by decide +kernel
theorem dL_lays_231 : decode cL_lays 231 = .ok (.iconst 4, 1) := by decide +kernel
theorem dL_lays_232 : decode cL_lays 232 = .ok (.iadd, 1) := by decide +kernel
theorem dL_lays_233 : decode cL_lays 233 = .ok (.dup2, 1) := by decide +kernel
theorem dL_lays_234 : decode cL_lays 234 = .ok (.iaload, 1) := by decide +kernel
theorem dL_lays_235 : decode cL_lays 235 = .ok (.iconst 1, 1) := by decide +kernel
theorem dL_lays_236 : decode cL_lays 236 = .ok (.iload 12, 2) := by decide +kernel
theorem dL_lays_238 : decode cL_lays 238 = .ok (.ishl, 1) := by decide +kernel
theorem dL_lays_239 : decode cL_lays 239 = .ok (.ior, 1) := by decide +kernel
theorem dL_lays_240 : decode cL_lays 240 = .ok (.iastore, 1) := by decide +kernel
theorem dL_lays_241 : decode cL_lays 241 = .ok (.aload_n 0, 1) := by decide +kernel
theorem dL_lays_242 : decode cL_lays 242 = .ok (.aload_n 1, 1) := by decide +kernel
theorem dL_lays_243 : decode cL_lays 243 = .ok (.aload_n 2, 1) := by decide +kernel
theorem dL_lays_244 : decode cL_lays 244 = .ok (.aload_n 3, 1) := by decide +kernel
theorem dL_lays_245 : decode cL_lays 245 = .ok (.iload 5, 2) := by decide +kernel
theorem dL_lays_247 : decode cL_lays 247 = .ok (.iload 10, 2) := by decide +kernel
theorem dL_lays_249 : decode cL_lays 249 = .ok (.invokestatic 7, 3) := by decide +kernel
theorem dL_lays_252 : decode cL_lays 252 = .ok (.istore 10, 2) := by decide +kernel
theorem dL_lays_254 : decode cL_lays 254 = .ok (.goto (-205), 3) := by decide +kernel
theorem dL_lays_257 : decode cL_lays 257 = .ok (.return_, 1) := by decide +kernel
theorem dL_guests_0 : decode cL_guests 0 = .ok (.iconst 0, 1) := by decide +kernel
theorem dL_guests_1 : decode cL_guests 1 = .ok (.istore_n 3, 1) := by decide +kernel
theorem dL_guests_2 : decode cL_guests 2 = .ok (.iconst 0, 1) := by decide +kernel
theorem dL_guests_3 : decode cL_guests 3 = .ok (.istore 4, 2) := by decide +kernel
theorem dL_guests_5 : decode cL_guests 5 = .ok (.iload 4, 2) := by decide +kernel
theorem dL_guests_7 : decode cL_guests 7 = .ok (.bipush 8, 2) := by decide +kernel
theorem dL_guests_9 : decode cL_guests 9 = .ok (.if_icmp .ge 58, 3) := by decide +kernel
theorem dL_guests_12 : decode cL_guests 12 = .ok (.aload_n 1, 1) := by decide +kernel
theorem dL_guests_13 : decode cL_guests 13 = .ok (.iload 4, 2) := by decide +kernel
theorem dL_guests_15 : decode cL_guests 15 = .ok (.iaload, 1) := by decide +kernel
theorem dL_guests_16 : decode cL_guests 16 = .ok (.iconst 1, 1) := by decide +kernel
theorem dL_guests_17 : decode cL_guests 17 = .ok (.isub, 1) := by decide +kernel
theorem dL_guests_18 : decode cL_guests 18 = .ok (.istore 5, 2) := by decide +kernel
theorem dL_guests_20 : decode cL_guests 20 = .ok (.iload_n 3, 1) := by decide +kernel
theorem dL_guests_21 : decode cL_guests 21 = .ok (.iload 5, 2) := by decide +kernel
theorem dL_guests_23 : decode cL_guests 23 = .ok (.ifCond .lt 35, 3) := by decide +kernel
theorem dL_guests_26 : decode cL_guests 26 = .ok (.aload_n 0, 1) := by decide +kernel
theorem dL_guests_27 : decode cL_guests 27 = .ok (.iload 5, 2) := by decide +kernel
theorem dL_guests_29 : decode cL_guests 29 = .ok (.iaload, 1) := by decide +kernel
theorem dL_guests_30 : decode cL_guests 30 = .ok (.bipush 100, 2) := by decide +kernel
theorem dL_guests_32 : decode cL_guests 32 = .ok (.irem, 1) := by decide +kernel
theorem dL_guests_33 : decode cL_guests 33 = .ok (.iload_n 2, 1) := by decide +kernel
theorem dL_guests_34 : decode cL_guests 34 = .ok (.if_icmp .gt 24, 3) := by decide +kernel
theorem dL_guests_37 : decode cL_guests 37 = .ok (.aload_n 0, 1) := by decide +kernel
theorem dL_guests_38 : decode cL_guests 38 = .ok (.iload 5, 2) := by decide +kernel
theorem dL_guests_40 : decode cL_guests 40 = .ok (.iaload, 1) := by decide +kernel
theorem dL_guests_41 : decode cL_guests 41 = .ok (.bipush 100, 2) := by decide +kernel
theorem dL_guests_43 : decode cL_guests 43 = .ok (.idiv, 1) := by decide +kernel
theorem dL_guests_44 : decode cL_guests 44 = .ok (.bipush 100, 2) := by decide +kernel
theorem dL_guests_46 : decode cL_guests 46 = .ok (.irem, 1) := by decide +kernel
theorem dL_guests_47 : decode cL_guests 47 = .ok (.iload_n 2, 1) := by decide +kernel
theorem dL_guests_48 : decode cL_guests 48 = .ok (.if_icmp .lt 10, 3) := by decide +kernel
theorem dL_guests_51 : decode cL_guests 51 = .ok (.iconst 1, 1) := by decide +kernel
theorem dL_guests_52 : decode cL_guests 52 = .ok (.iload 4, 2) := by decide +kernel
theorem dL_guests_54 : decode cL_guests 54 = .ok (.ishl, 1) := by decide +kernel
theorem dL_guests_55 : decode cL_guests 55 = .ok (.goto 4, 3) := by decide +kernel
theorem dL_guests_58 : decode cL_guests 58 = .ok (.iconst 0, 1) := by decide +kernel
theorem dL_guests_59 : decode cL_guests 59 = .ok (.ior, 1) := by decide +kernel
theorem dL_guests_60 : decode cL_guests 60 = .ok (.istore_n 3, 1) := by decide +kernel
theorem dL_guests_61 : decode cL_guests 61 = .ok (.iinc 4 1, 3) := by decide +kernel
theorem dL_guests_64 : decode cL_guests 64 = .ok (.goto (-59), 3) := by decide +kernel
theorem dL_guests_67 : decode cL_guests 67 = .ok (.iload_n 3, 1) := by decide +kernel
theorem dL_guests_68 : decode cL_guests 68 = .ok (.ireturn, 1) := by decide +kernel
theorem dL_bits_0 : decode cL_bits 0 = .ok (.iconst 0, 1) := by decide +kernel
theorem dL_bits_1 : decode cL_bits 1 = .ok (.istore_n 1, 1) := by decide +kernel
theorem dL_bits_2 : decode cL_bits 2 = .ok (.iload_n 0, 1) := by decide +kernel
theorem dL_bits_3 : decode cL_bits 3 = .ok (.istore_n 2, 1) := by decide +kernel
theorem dL_bits_4 : decode cL_bits 4 = .ok (.iload_n 2, 1) := by decide +kernel
theorem dL_bits_5 : decode cL_bits 5 = .ok (.ifCond .le 16, 3) := by decide +kernel
theorem dL_bits_8 : decode cL_bits 8 = .ok (.iload_n 1, 1) := by decide +kernel
theorem dL_bits_9 : decode cL_bits 9 = .ok (.iload_n 2, 1) := by decide +kernel
theorem dL_bits_10 : decode cL_bits 10 = .ok (.iconst 1, 1) := by decide +kernel
theorem dL_bits_11 : decode cL_bits 11 = .ok (.iand, 1) := by decide +kernel
theorem dL_bits_12 : decode cL_bits 12 = .ok (.iadd, 1) := by decide +kernel
theorem dL_bits_13 : decode cL_bits 13 = .ok (.istore_n 1, 1) := by decide +kernel
theorem dL_bits_14 : decode cL_bits 14 = .ok (.iload_n 2, 1) := by decide +kernel
theorem dL_bits_15 : decode cL_bits 15 = .ok (.iconst 1, 1) := by decide +kernel
theorem dL_bits_16 : decode cL_bits 16 = .ok (.ishr, 1) := by decide +kernel
theorem dL_bits_17 : decode cL_bits 17 = .ok (.istore_n 2, 1) := by decide +kernel
theorem dL_bits_18 : decode cL_bits 18 = .ok (.goto (-14), 3) := by decide +kernel
theorem dL_bits_21 : decode cL_bits 21 = .ok (.iload_n 1, 1) := by decide +kernel
theorem dL_bits_22 : decode cL_bits 22 = .ok (.ireturn, 1) := by decide +kernel
theorem dL_isOpen_0 : decode cL_isOpen 0 = .ok (.aload_n 0, 1) := by decide +kernel
theorem dL_isOpen_1 : decode cL_isOpen 1 = .ok (.bipush 8, 2) := by decide +kernel
theorem dL_isOpen_3 : decode cL_isOpen 3 = .ok (.iaload, 1) := by decide +kernel
theorem dL_isOpen_4 : decode cL_isOpen 4 = .ok (.iload_n 1, 1) := by decide +kernel
theorem dL_isOpen_5 : decode cL_isOpen 5 = .ok (.ishr, 1) := by decide +kernel
theorem dL_isOpen_6 : decode cL_isOpen 6 = .ok (.iconst 1, 1) := by decide +kernel
theorem dL_isOpen_7 : decode cL_isOpen 7 = .ok (.iand, 1) := by decide +kernel
theorem dL_isOpen_8 : decode cL_isOpen 8 = .ok (.iconst 1, 1) := by decide +kernel
theorem dL_isOpen_9 : decode cL_isOpen 9 = .ok (.if_icmp .ne 23, 3) := by decide +kernel
theorem dL_isOpen_12 : decode cL_isOpen 12 = .ok (.aload_n 0, 1) := by decide +kernel
theorem dL_isOpen_13 : decode cL_isOpen 13 = .ok (.bipush 9, 2) := by decide +kernel
theorem dL_isOpen_15 : decode cL_isOpen 15 = .ok (.iaload, 1) := by decide +kernel
theorem dL_isOpen_16 : decode cL_isOpen 16 = .ok (.aload_n 0, 1) := by decide +kernel
theorem dL_isOpen_17 : decode cL_isOpen 17 = .ok (.bipush 10, 2) := by decide +kernel
theorem dL_isOpen_19 : decode cL_isOpen 19 = .ok (.iaload, 1) := by decide +kernel
theorem dL_isOpen_20 : decode cL_isOpen 20 = .ok (.ior, 1) := by decide +kernel
theorem dL_isOpen_21 : decode cL_isOpen 21 = .ok (.iload_n 1, 1) := by decide +kernel
theorem dL_isOpen_22 : decode cL_isOpen 22 = .ok (.ishr, 1) := by decide +kernel
theorem dL_isOpen_23 : decode cL_isOpen 23 = .ok (.iconst 1, 1) := by decide +kernel
theorem dL_isOpen_24 : decode cL_isOpen 24 = .ok (.iand, 1) := by decide +kernel
theorem dL_isOpen_25 : decode cL_isOpen 25 = .ok (.ifCond .ne 7, 3) := by decide +kernel
theorem dL_isOpen_28 : decode cL_isOpen 28 = .ok (.iconst 1, 1) := by decide +kernel
theorem dL_isOpen_29 : decode cL_isOpen 29 = .ok (.goto 4, 3) := by decide +kernel
theorem dL_isOpen_32 : decode cL_isOpen 32 = .ok (.iconst 0, 1) := by decide +kernel
theorem dL_isOpen_33 : decode cL_isOpen 33 = .ok (.ireturn, 1) := by decide +kernel
theorem dL_first_0 : decode cL_first 0 = .ok (.iconst (-1), 1) := by decide +kernel
theorem dL_first_1 : decode cL_first 1 = .ok (.istore 5, 2) := by decide +kernel
theorem dL_first_3 : decode cL_first 3 = .ok (.ldc2_w 13, 3) := by decide +kernel
theorem dL_first_6 : decode cL_first 6 = .ok (.lstore 6, 2) := by decide +kernel
theorem dL_first_8 : decode cL_first 8 = .ok (.iconst 0, 1) := by decide +kernel
theorem dL_first_9 : decode cL_first 9 = .ok (.istore 8, 2) := by decide +kernel
theorem dL_first_11 : decode cL_first 11 = .ok (.iload 8, 2) := by decide +kernel
theorem dL_first_13 : decode cL_first 13 = .ok (.aload_n 0, 1) := by decide +kernel
theorem dL_first_14 : decode cL_first 14 = .ok (.iconst 1, 1) := by decide +kernel
theorem dL_first_15 : decode cL_first 15 = .ok (.iaload, 1) := by decide +kernel
theorem dL_first_16 : decode cL_first 16 = .ok (.if_icmp .ge 123, 3) := by decide +kernel
theorem dL_first_19 : decode cL_first 19 = .ok (.aload_n 2, 1) := by decide +kernel
theorem dL_first_20 : decode cL_first 20 = .ok (.iconst 2, 1) := by decide +kernel
theorem dL_first_21 : decode cL_first 21 = .ok (.iload 8, 2) := by decide +kernel
theorem dL_first_23 : decode cL_first 23 = .ok (.imul, 1) := by decide +kernel
theorem dL_first_24 : decode cL_first 24 = .ok (.iconst 1, 1) := by decide +kernel
theorem dL_first_25 : decode cL_first 25 = .ok (.iadd, 1) := by decide +kernel
theorem dL_first_26 : decode cL_first 26 = .ok (.iaload, 1) := by decide +kernel
theorem dL_first_27 : decode cL_first 27 = .ok (.istore 9, 2) := by decide +kernel
theorem dL_first_29 : decode cL_first 29 = .ok (.aload_n 1, 1) := by decide +kernel
theorem dL_first_30 : decode cL_first 30 = .ok (.aload_n 3, 1) := by decide +kernel
theorem dL_first_31 : decode cL_first 31 = .ok (.iload 9, 2) := by decide +kernel
theorem dL_first_33 : decode cL_first 33 = .ok (.invokestatic 15, 3) := by decide +kernel
theorem dL_first_36 : decode cL_first 36 = .ok (.invokestatic 19, 3) := by decide +kernel
theorem dL_first_39 : decode cL_first 39 = .ok (.i2l, 1) := by decide +kernel
theorem dL_first_40 : decode cL_first 40 = .ok (.ldc2_w 23, 3) := by decide +kernel
theorem dL_first_43 : decode cL_first 43 = .ok (.lmul, 1) := by decide +kernel
theorem dL_first_44 : decode cL_first 44 = .ok (.bipush 99, 2) := by decide +kernel
theorem dL_first_46 : decode cL_first 46 = .ok (.iload 9, 2) := by decide +kernel
theorem dL_first_48 : decode cL_first 48 = .ok (.isub, 1) := by decide +kernel
theorem dL_first_49 : decode cL_first 49 = .ok (.i2l, 1) := by decide +kernel
theorem dL_first_50 : decode cL_first 50 = .ok (.ldc2_w 25, 3) := by decide +kernel
theorem dL_first_53 : decode cL_first 53 = .ok (.lmul, 1) := by decide +kernel
theorem dL_first_54 : decode cL_first 54 = .ok (.ladd, 1) := by decide +kernel
theorem dL_first_55 : decode cL_first 55 = .ok (.ldc2_w 27, 3) := by decide +kernel
theorem dL_first_58 : decode cL_first 58 = .ok (.ladd, 1) := by decide +kernel
theorem dL_first_59 : decode cL_first 59 = .ok (.aload_n 3, 1) := by decide +kernel
theorem dL_first_60 : decode cL_first 60 = .ok (.bipush 12, 2) := by decide +kernel
theorem dL_first_62 : decode cL_first 62 = .ok (.iload 8, 2) := by decide +kernel
theorem dL_first_64 : decode cL_first 64 = .ok (.iadd, 1) := by decide +kernel
theorem dL_first_65 : decode cL_first 65 = .ok (.iaload, 1) := by decide +kernel
theorem dL_first_66 : decode cL_first 66 = .ok (.i2l, 1) := by decide +kernel
theorem dL_first_67 : decode cL_first 67 = .ok (.lsub, 1) := by decide +kernel
theorem dL_first_68 : decode cL_first 68 = .ok (.lstore 10, 2) := by decide +kernel
theorem dL_first_70 : decode cL_first 70 = .ok (.iload 4, 2) := by decide +kernel
theorem dL_first_72 : decode cL_first 72 = .ok (.iload 8, 2) := by decide +kernel
theorem dL_first_74 : decode cL_first 74 = .ok (.ishr, 1) := by decide +kernel
theorem dL_first_75 : decode cL_first 75 = .ok (.iconst 1, 1) := by decide +kernel
theorem dL_first_76 : decode cL_first 76 = .ok (.iand, 1) := by decide +kernel
theorem dL_first_77 : decode cL_first 77 = .ok (.iconst 1, 1) := by decide +kernel
theorem dL_first_78 : decode cL_first 78 = .ok (.if_icmp .ne 24, 3) := by decide +kernel
theorem dL_first_81 : decode cL_first 81 = .ok (.aload_n 3, 1) := by decide +kernel
theorem dL_first_82 : decode cL_first 82 = .ok (.iload 8, 2) := by decide +kernel
theorem dL_first_84 : decode cL_first 84 = .ok (.invokestatic 29, 3) := by decide +kernel
theorem dL_first_87 : decode cL_first 87 = .ok (.ifCond .eq 15, 3) := by decide +kernel
theorem dL_first_90 : decode cL_first 90 = .ok (.lload 10, 2) := by decide +kernel
theorem dL_first_92 : decode cL_first 92 = .ok (.lload 6, 2) := by decide +kernel
theorem dL_first_94 : decode cL_first 94 = .ok (.lcmp, 1) := by decide +kernel
theorem dL_first_95 : decode cL_first 95 = .ok (.ifCond .le 7, 3) := by decide +kernel
theorem dL_first_98 : decode cL_first 98 = .ok (.iconst 1, 1) := by decide +kernel
theorem dL_first_99 : decode cL_first 99 = .ok (.goto 4, 3) := by decide +kernel
theorem dL_first_102 : decode cL_first 102 = .ok (.iconst 0, 1) := by decide +kernel
theorem dL_first_103 : decode cL_first 103 = .ok (.istore 12, 2) := by decide +kernel
theorem dL_first_105 : decode cL_first 105 = .ok (.iload 12, 2) := by decide +kernel
theorem dL_first_107 : decode cL_first 107 = .ok (.ifCond .eq 8, 3) := by decide +kernel
theorem dL_first_110 : decode cL_first 110 = .ok (.iload 8, 2) := by decide +kernel
theorem dL_first_112 : decode cL_first 112 = .ok (.goto 5, 3) := by decide +kernel
theorem dL_first_115 : decode cL_first 115 = .ok (.iload 5, 2) := by decide +kernel
theorem dL_first_117 : decode cL_first 117 = .ok (.istore 5, 2) := by decide +kernel
theorem dL_first_119 : decode cL_first 119 = .ok (.iload 12, 2) := by decide +kernel
theorem dL_first_121 : decode cL_first 121 = .ok (.ifCond .eq 8, 3) := by decide +kernel
theorem dL_first_124 : decode cL_first 124 = .ok (.lload 10, 2) := by decide +kernel
theorem dL_first_126 : decode cL_first 126 = .ok (.goto 5, 3) := by decide +kernel
