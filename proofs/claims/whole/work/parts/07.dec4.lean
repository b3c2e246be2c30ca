theorem dX6_canSpan_87 : decode cX6_canSpan 87 = .ok (.iload 6, 2) := by decide +kernel
theorem dX6_canSpan_89 : decode cX6_canSpan 89 = .ok (.iadd, 1) := by decide +kernel
theorem dX6_canSpan_90 : decode cX6_canSpan 90 = .ok (.iaload, 1) := by decide +kernel
theorem dX6_canSpan_91 : decode cX6_canSpan 91 = .ok (.imul, 1) := by decide +kernel
theorem dX6_canSpan_92 : decode cX6_canSpan 92 = .ok (.iconst 1, 1) := by decide +kernel
theorem dX6_canSpan_93 : decode cX6_canSpan 93 = .ok (.if_icmp .ne 7, 3) := by decide +kernel
theorem dX6_canSpan_96 : decode cX6_canSpan 96 = .ok (.iconst 1, 1) := by decide +kernel
theorem dX6_canSpan_97 : decode cX6_canSpan 97 = .ok (.goto 4, 3) := by decide +kernel
theorem dX6_canSpan_100 : decode cX6_canSpan 100 = .ok (.iconst 0, 1) := by decide +kernel
theorem dX6_canSpan_101 : decode cX6_canSpan 101 = .ok (.istore 4, 2) := by decide +kernel
theorem dX6_canSpan_103 : decode cX6_canSpan 103 = .ok (.iinc 5 1, 3) := by decide +kernel
theorem dX6_canSpan_106 : decode cX6_canSpan 106 = .ok (.goto (-93), 3) := by decide +kernel
theorem dX6_canSpan_109 : decode cX6_canSpan 109 = .ok (.iload 4, 2) := by decide +kernel
theorem dX6_canSpan_111 : decode cX6_canSpan 111 = .ok (.ireturn, 1) := by decide +kernel
theorem dX6_span_0 : decode cX6_span 0 = .ok (.aload_n 0, 1) := by decide +kernel
theorem dX6_span_1 : decode cX6_span 1 = .ok (.iconst 0, 1) := by decide +kernel
theorem dX6_span_2 : decode cX6_span 2 = .ok (.putfield 62, 3) := by decide +kernel
theorem dX6_span_5 : decode cX6_span 5 = .ok (.iload 4, 2) := by decide +kernel
theorem dX6_span_7 : decode cX6_span 7 = .ok (.iconst 1, 1) := by decide +kernel
theorem dX6_span_8 : decode cX6_span 8 = .ok (.iconst 5, 1) := by decide +kernel
theorem dX6_span_9 : decode cX6_span 9 = .ok (.invokestatic 66, 3) := by decide +kernel
theorem dX6_span_12 : decode cX6_span 12 = .ok (.ifCond .eq 17, 3) := by decide +kernel
theorem dX6_span_15 : decode cX6_span 15 = .ok (.iload 5, 2) := by decide +kernel
theorem dX6_span_17 : decode cX6_span 17 = .ok (.iconst 1, 1) := by decide +kernel
theorem dX6_span_18 : decode cX6_span 18 = .ok (.iconst 5, 1) := by decide +kernel
theorem dX6_span_19 : decode cX6_span 19 = .ok (.invokestatic 66, 3) := by decide +kernel
theorem dX6_span_22 : decode cX6_span 22 = .ok (.ifCond .eq 7, 3) := by decide +kernel
theorem dX6_span_25 : decode cX6_span 25 = .ok (.iconst 1, 1) := by decide +kernel
theorem dX6_span_26 : decode cX6_span 26 = .ok (.goto 4, 3) := by decide +kernel
theorem dX6_span_29 : decode cX6_span 29 = .ok (.iconst 0, 1) := by decide +kernel
theorem dX6_span_30 : decode cX6_span 30 = .ok (.istore 6, 2) := by decide +kernel
theorem dX6_span_32 : decode cX6_span 32 = .ok (.aload_n 0, 1) := by decide +kernel
theorem dX6_span_33 : decode cX6_span 33 = .ok (.iload_n 1, 1) := by decide +kernel
theorem dX6_span_34 : decode cX6_span 34 = .ok (.iload_n 2, 1) := by decide +kernel
theorem dX6_span_35 : decode cX6_span 35 = .ok (.iload_n 3, 1) := by decide +kernel
theorem dX6_span_36 : decode cX6_span 36 = .ok (.invokevirtual 180, 3) := by decide +kernel
theorem dX6_span_39 : decode cX6_span 39 = .ok (.ifCond .eq 39, 3) := by decide +kernel
theorem dX6_span_42 : decode cX6_span 42 = .ok (.iload 6, 2) := by decide +kernel
theorem dX6_span_44 : decode cX6_span 44 = .ok (.ifCond .eq 40, 3) := by decide +kernel
theorem dX6_span_47 : decode cX6_span 47 = .ok (.iload_n 2, 1) := by decide +kernel
theorem dX6_span_48 : decode cX6_span 48 = .ok (.iload 4, 2) := by decide +kernel
theorem dX6_span_50 : decode cX6_span 50 = .ok (.iadd, 1) := by decide +kernel
theorem dX6_span_51 : decode cX6_span 51 = .ok (.aload_n 0, 1) := by decide +kernel
theorem dX6_span_52 : decode cX6_span 52 = .ok (.getfield 7, 3) := by decide +kernel
theorem dX6_span_55 : decode cX6_span 55 = .ok (.iconst 2, 1) := by decide +kernel
theorem dX6_span_56 : decode cX6_span 56 = .ok (.iload_n 1, 1) := by decide +kernel
theorem dX6_span_57 : decode cX6_span 57 = .ok (.iadd, 1) := by decide +kernel
theorem dX6_span_58 : decode cX6_span 58 = .ok (.iaload, 1) := by decide +kernel
theorem dX6_span_59 : decode cX6_span 59 = .ok (.if_icmp .gt 19, 3) := by decide +kernel
theorem dX6_span_62 : decode cX6_span 62 = .ok (.iload_n 3, 1) := by decide +kernel
theorem dX6_span_63 : decode cX6_span 63 = .ok (.iload 5, 2) := by decide +kernel
theorem dX6_span_65 : decode cX6_span 65 = .ok (.iadd, 1) := by decide +kernel
theorem dX6_span_66 : decode cX6_span 66 = .ok (.aload_n 0, 1) := by decide +kernel
theorem dX6_span_67 : decode cX6_span 67 = .ok (.getfield 7, 3) := by decide +kernel
theorem dX6_span_70 : decode cX6_span 70 = .ok (.bipush 7, 2) := by decide +kernel
theorem dX6_span_72 : decode cX6_span 72 = .ok (.iload_n 1, 1) := by decide +kernel
theorem dX6_span_73 : decode cX6_span 73 = .ok (.iadd, 1) := by decide +kernel
theorem dX6_span_74 : decode cX6_span 74 = .ok (.iaload, 1) := by decide +kernel
theorem dX6_span_75 : decode cX6_span 75 = .ok (.if_icmp .le 9, 3) := by decide +kernel
theorem dX6_span_78 : decode cX6_span 78 = .ok (.aload_n 0, 1) := by decide +kernel
theorem dX6_span_79 : decode cX6_span 79 = .ok (.iconst 1, 1) := by decide +kernel
theorem dX6_span_80 : decode cX6_span 80 = .ok (.invokevirtual 88, 3) := by decide +kernel
theorem dX6_span_83 : decode cX6_span 83 = .ok (.ireturn, 1) := by decide +kernel
theorem dX6_span_84 : decode cX6_span 84 = .ok (.iload 6, 2) := by decide +kernel
theorem dX6_span_86 : decode cX6_span 86 = .ok (.ifCond .ne 9, 3) := by decide +kernel
theorem dX6_span_89 : decode cX6_span 89 = .ok (.aload_n 0, 1) := by decide +kernel
theorem dX6_span_90 : decode cX6_span 90 = .ok (.iconst 2, 1) := by decide +kernel
theorem dX6_span_91 : decode cX6_span 91 = .ok (.invokevirtual 88, 3) := by decide +kernel
theorem dX6_span_94 : decode cX6_span 94 = .ok (.ireturn, 1) := by decide +kernel
theorem dX6_span_95 : decode cX6_span 95 = .ok (.iload_n 1, 1) := by decide +kernel
theorem dX6_span_96 : decode cX6_span 96 = .ok (.iload_n 2, 1) := by decide +kernel
theorem dX6_span_97 : decode cX6_span 97 = .ok (.iload_n 3, 1) := by decide +kernel
theorem dX6_span_98 : decode cX6_span 98 = .ok (.invokestatic 125, 3) := by decide +kernel
theorem dX6_span_101 : decode cX6_span 101 = .ok (.istore 7, 2) := by decide +kernel
theorem dX6_span_103 : decode cX6_span 103 = .ok (.aload_n 0, 1) := by decide +kernel
theorem dX6_span_104 : decode cX6_span 104 = .ok (.iload 7, 2) := by decide +kernel
theorem dX6_span_106 : decode cX6_span 106 = .ok (.iload 4, 2) := by decide +kernel
theorem dX6_span_108 : decode cX6_span 108 = .ok (.iload 5, 2) := by decide +kernel
theorem dX6_span_110 : decode cX6_span 110 = .ok (.invokevirtual 195, 3) := by decide +kernel
theorem dX6_span_113 : decode cX6_span 113 = .ok (.ifCond .ne 9, 3) := by decide +kernel
theorem dX6_span_116 : decode cX6_span 116 = .ok (.aload_n 0, 1) := by decide +kernel
theorem dX6_span_117 : decode cX6_span 117 = .ok (.iconst 3, 1) := by decide +kernel
theorem dX6_span_118 : decode cX6_span 118 = .ok (.invokevirtual 88, 3) := by decide +kernel
theorem dX6_span_121 : decode cX6_span 121 = .ok (.ireturn, 1) := by decide +kernel
theorem dX6_span_122 : decode cX6_span 122 = .ok (.aload_n 0, 1) := by decide +kernel
theorem dX6_span_123 : decode cX6_span 123 = .ok (.invokevirtual 177, 3) := by decide +kernel
theorem dX6_span_126 : decode cX6_span 126 = .ok (.iconst 0, 1) := by decide +kernel
theorem dX6_span_127 : decode cX6_span 127 = .ok (.istore 8, 2) := by decide +kernel
theorem dX6_span_129 : decode cX6_span 129 = .ok (.iload 8, 2) := by decide +kernel
theorem dX6_span_131 : decode cX6_span 131 = .ok (.bipush 25, 2) := by decide +kernel
theorem dX6_span_133 : decode cX6_span 133 = .ok (.if_icmp .ge 50, 3) := by decide +kernel
theorem dX6_span_136 : decode cX6_span 136 = .ok (.bipush 25, 2) := by decide +kernel
theorem dX6_span_138 : decode cX6_span 138 = .ok (.iload_n 1, 1) := by decide +kernel
theorem dX6_span_139 : decode cX6_span 139 = .ok (.imul, 1) := by decide +kernel
theorem dX6_span_140 : decode cX6_span 140 = .ok (.iload 8, 2) := by decide +kernel
theorem dX6_span_142 : decode cX6_span 142 = .ok (.iadd, 1) := by decide +kernel
theorem dX6_span_143 : decode cX6_span 143 = .ok (.istore 9, 2) := by decide +kernel
theorem dX6_span_145 : decode cX6_span 145 = .ok (.iload 9, 2) := by decide +kernel
theorem dX6_span_147 : decode cX6_span 147 = .ok (.iload 7, 2) := by decide +kernel
theorem dX6_span_149 : decode cX6_span 149 = .ok (.if_icmp .eq 28, 3) := by decide +kernel
theorem dX6_span_152 : decode cX6_span 152 = .ok (.aload_n 0, 1) := by decide +kernel
theorem dX6_span_153 : decode cX6_span 153 = .ok (.getfield 7, 3) := by decide +kernel
theorem dX6_span_156 : decode cX6_span 156 = .ok (.sipush 512, 3) := by decide +kernel
theorem dX6_span_159 : decode cX6_span 159 = .ok (.iload 9, 2) := by decide +kernel
theorem dX6_span_161 : decode cX6_span 161 = .ok (.iadd, 1) := by decide +kernel
theorem dX6_span_162 : decode cX6_span 162 = .ok (.iaload, 1) := by decide +kernel
theorem dX6_span_163 : decode cX6_span 163 = .ok (.iload 7, 2) := by decide +kernel
theorem dX6_span_165 : decode cX6_span 165 = .ok (.if_icmp .ne 12, 3) := by decide +kernel
theorem dX6_span_168 : decode cX6_span 168 = .ok (.aload_n 0, 1) := by decide +kernel
theorem dX6_span_169 : decode cX6_span 169 = .ok (.getfield 7, 3) := by decide +kernel
theorem dX6_span_172 : decode cX6_span 172 = .ok (.iload 9, 2) := by decide +kernel
theorem dX6_span_174 : decode cX6_span 174 = .ok (.invokestatic 92, 3) := by decide +kernel
theorem dX6_span_177 : decode cX6_span 177 = .ok (.iinc 8 1, 3) := by decide +kernel
theorem dX6_span_180 : decode cX6_span 180 = .ok (.goto (-51), 3) := by decide +kernel
theorem dX6_span_183 : decode cX6_span 183 = .ok (.iconst 1, 1) := by decide +kernel
theorem dX6_span_184 : decode cX6_span 184 = .ok (.istore 8, 2) := by decide +kernel
theorem dX6_span_186 : decode cX6_span 186 = .ok (.iload 8, 2) := by decide +kernel
theorem dX6_span_188 : decode cX6_span 188 = .ok (.iload 4, 2) := by decide +kernel
theorem dX6_span_190 : decode cX6_span 190 = .ok (.iload 5, 2) := by decide +kernel
theorem dX6_span_192 : decode cX6_span 192 = .ok (.imul, 1) := by decide +kernel
theorem dX6_span_193 : decode cX6_span 193 = .ok (.if_icmp .ge 49, 3) := by decide +kernel
theorem dX6_span_196 : decode cX6_span 196 = .ok (.iload 7, 2) := by decide +kernel
theorem dX6_span_198 : decode cX6_span 198 = .ok (.iconst 5, 1) := by decide +kernel
theorem dX6_span_199 : decode cX6_span 199 = .ok (.iload 8, 2) := by decide +kernel
theorem dX6_span_201 : decode cX6_span 201 = .ok (.iload 5, 2) := by decide +kernel
theorem dX6_span_203 : decode cX6_span 203 = .ok (.idiv, 1) := by decide +kernel
theorem dX6_span_204 : decode cX6_span 204 = .ok (.imul, 1) := by decide +kernel
theorem dX6_span_205 : decode cX6_span 205 = .ok (.iadd, 1) := by decide +kernel
theorem dX6_span_206 : decode cX6_span 206 = .ok (.iload 8, 2) := by decide +kernel
theorem dX6_span_208 : decode cX6_span 208 = .ok (.iload 5, 2) := by decide +kernel
theorem dX6_span_210 : decode cX6_span 210 = .ok (.irem, 1) := by decide +kernel
theorem dX6_span_211 : decode cX6_span 211 = .ok (.iadd, 1) := by decide +kernel
theorem dX6_span_212 : decode cX6_span 212 = .ok (.istore 9, 2) := by decide +kernel
theorem dX6_span_214 : decode cX6_span 214 = .ok (.aload_n 0, 1) := by decide +kernel
theorem dX6_span_215 : decode cX6_span 215 = .ok (.getfield 7, 3) := by decide +kernel
theorem dX6_span_218 : decode cX6_span 218 = .ok (.iload 9, 2) := by decide +kernel
theorem dX6_span_220 : decode cX6_span 220 = .ok (.invokestatic 92, 3) := by decide +kernel
theorem dX6_span_223 : decode cX6_span 223 = .ok (.aload_n 0, 1) := by decide +kernel
theorem dX6_span_224 : decode cX6_span 224 = .ok (.getfield 7, 3) := by decide +kernel
theorem dX6_span_227 : decode cX6_span 227 = .ok (.sipush 512, 3) := by decide +kernel
theorem dX6_span_230 : decode cX6_span 230 = .ok (.iload 9, 2) := by decide +kernel
theorem dX6_span_232 : decode cX6_span 232 = .ok (.iadd, 1) := by decide +kernel
theorem dX6_span_233 : decode cX6_span 233 = .ok (.iload 7, 2) := by decide +kernel
theorem dX6_span_235 : decode cX6_span 235 = .ok (.iastore, 1) := by decide +kernel
theorem dX6_span_236 : decode cX6_span 236 = .ok (.iinc 8 1, 3) := by decide +kernel
theorem dX6_span_239 : decode cX6_span 239 = .ok (.goto (-53), 3) := by decide +kernel
theorem dX6_span_242 : decode cX6_span 242 = .ok (.aload_n 0, 1) := by decide +kernel
theorem dX6_span_243 : decode cX6_span 243 = .ok (.getfield 7, 3) := by decide +kernel
theorem dX6_span_246 : decode cX6_span 246 = .ok (.sipush 262, 3) := by decide +kernel
theorem dX6_span_249 : decode cX6_span 249 = .ok (.iload 7, 2) := by decide +kernel
theorem dX6_span_251 : decode cX6_span 251 = .ok (.iadd, 1) := by decide +kernel
theorem dX6_span_252 : decode cX6_span 252 = .ok (.iload 4, 2) := by decide +kernel
theorem dX6_span_254 : decode cX6_span 254 = .ok (.iastore, 1) := by decide +kernel
theorem dX6_span_255 : decode cX6_span 255 = .ok (.aload_n 0, 1) := by decide +kernel
theorem dX6_span_256 : decode cX6_span 256 = .ok (.getfield 7, 3) := by decide +kernel
theorem dX6_span_259 : decode cX6_span 259 = .ok (.sipush 387, 3) := by decide +kernel
theorem dX6_span_262 : decode cX6_span 262 = .ok (.iload 7, 2) := by decide +kernel
theorem dX6_span_264 : decode cX6_span 264 = .ok (.iadd, 1) := by decide +kernel
theorem dX6_span_265 : decode cX6_span 265 = .ok (.iload 5, 2) := by decide +kernel
theorem dX6_span_267 : decode cX6_span 267 = .ok (.iastore, 1) := by decide +kernel
theorem dX6_span_268 : decode cX6_span 268 = .ok (.iload 4, 2) := by decide +kernel
theorem dX6_span_270 : decode cX6_span 270 = .ok (.iload 5, 2) := by decide +kernel
theorem dX6_span_272 : decode cX6_span 272 = .ok (.imul, 1) := by decide +kernel
theorem dX6_span_273 : decode cX6_span 273 = .ok (.ireturn, 1) := by decide +kernel
theorem dX6_rule_0 : decode cX6_rule 0 = .ok (.aload_n 0, 1) := by decide +kernel
theorem dX6_rule_1 : decode cX6_rule 1 = .ok (.iconst 0, 1) := by decide +kernel
theorem dX6_rule_2 : decode cX6_rule 2 = .ok (.putfield 62, 3) := by decide +kernel
theorem dX6_rule_5 : decode cX6_rule 5 = .ok (.aload_n 0, 1) := by decide +kernel
theorem dX6_rule_6 : decode cX6_rule 6 = .ok (.iload_n 1, 1) := by decide +kernel
theorem dX6_rule_7 : decode cX6_rule 7 = .ok (.iload_n 2, 1) := by decide +kernel
theorem dX6_rule_8 : decode cX6_rule 8 = .ok (.iload_n 3, 1) := by decide +kernel
theorem dX6_rule_9 : decode cX6_rule 9 = .ok (.invokevirtual 180, 3) := by decide +kernel
theorem dX6_rule_12 : decode cX6_rule 12 = .ok (.ifCond .ne 9, 3) := by decide +kernel
theorem dX6_rule_15 : decode cX6_rule 15 = .ok (.aload_n 0, 1) := by decide +kernel
theorem dX6_rule_16 : decode cX6_rule 16 = .ok (.iconst 1, 1) := by decide +kernel
theorem dX6_rule_17 : decode cX6_rule 17 = .ok (.invokevirtual 88, 3) := by decide +kernel
theorem dX6_rule_20 : decode cX6_rule 20 = .ok (.ireturn, 1) := by decide +kernel
theorem dX6_rule_21 : decode cX6_rule 21 = .ok (.iload 4, 2) := by decide +kernel
theorem dX6_rule_23 : decode cX6_rule 23 = .ok (.iconst 0, 1) := by decide +kernel
theorem dX6_rule_24 : decode cX6_rule 24 = .ok (.iconst 3, 1) := by decide +kernel
theorem dX6_rule_25 : decode cX6_rule 25 = .ok (.invokestatic 66, 3) := by decide +kernel
theorem dX6_rule_28 : decode cX6_rule 28 = .ok (.ifCond .eq 13, 3) := by decide +kernel
theorem dX6_rule_31 : decode cX6_rule 31 = .ok (.iload 5, 2) := by decide +kernel
theorem dX6_rule_33 : decode cX6_rule 33 = .ok (.iconst 0, 1) := by decide +kernel
theorem dX6_rule_34 : decode cX6_rule 34 = .ok (.iconst 3, 1) := by decide +kernel
theorem dX6_rule_35 : decode cX6_rule 35 = .ok (.invokestatic 66, 3) := by decide +kernel
theorem dX6_rule_38 : decode cX6_rule 38 = .ok (.ifCond .ne 9, 3) := by decide +kernel
theorem dX6_rule_41 : decode cX6_rule 41 = .ok (.aload_n 0, 1) := by decide +kernel
theorem dX6_rule_42 : decode cX6_rule 42 = .ok (.iconst 2, 1) := by decide +kernel
theorem dX6_rule_43 : decode cX6_rule 43 = .ok (.invokevirtual 88, 3) := by decide +kernel
theorem dX6_rule_46 : decode cX6_rule 46 = .ok (.ireturn, 1) := by decide +kernel
theorem dX6_rule_47 : decode cX6_rule 47 = .ok (.iload_n 1, 1) := by decide +kernel
theorem dX6_rule_48 : decode cX6_rule 48 = .ok (.iload_n 2, 1) := by decide +kernel
theorem dX6_rule_49 : decode cX6_rule 49 = .ok (.iload_n 3, 1) := by decide +kernel
theorem dX6_rule_50 : decode cX6_rule 50 = .ok (.invokestatic 125, 3) := by decide +kernel
theorem dX6_rule_53 : decode cX6_rule 53 = .ok (.istore 6, 2) := by decide +kernel
theorem dX6_rule_55 : decode cX6_rule 55 = .ok (.aload_n 0, 1) := by decide +kernel
theorem dX6_rule_56 : decode cX6_rule 56 = .ok (.getfield 7, 3) := by decide +kernel
theorem dX6_rule_59 : decode cX6_rule 59 = .ok (.iload 6, 2) := by decide +kernel
theorem dX6_rule_61 : decode cX6_rule 61 = .ok (.invokestatic 103, 3) := by decide +kernel
theorem dX6_rule_64 : decode cX6_rule 64 = .ok (.ifCond .ne 9, 3) := by decide +kernel
theorem dX6_rule_67 : decode cX6_rule 67 = .ok (.aload_n 0, 1) := by decide +kernel
theorem dX6_rule_68 : decode cX6_rule 68 = .ok (.iconst 3, 1) := by decide +kernel
theorem dX6_rule_69 : decode cX6_rule 69 = .ok (.invokevirtual 88, 3) := by decide +kernel
theorem dX6_rule_72 : decode cX6_rule 72 = .ok (.ireturn, 1) := by decide +kernel
theorem dX6_rule_73 : decode cX6_rule 73 = .ok (.aload_n 0, 1) := by decide +kernel
theorem dX6_rule_74 : decode cX6_rule 74 = .ok (.invokevirtual 177, 3) := by decide +kernel
theorem dX6_rule_77 : decode cX6_rule 77 = .ok (.aload_n 0, 1) := by decide +kernel
theorem dX6_rule_78 : decode cX6_rule 78 = .ok (.getfield 7, 3) := by decide +kernel
theorem dX6_rule_81 : decode cX6_rule 81 = .ok (.sipush 637, 3) := by decide +kernel
theorem dX6_rule_84 : decode cX6_rule 84 = .ok (.iconst 4, 1) := by decide +kernel
theorem dX6_rule_85 : decode cX6_rule 85 = .ok (.iload 6, 2) := by decide +kernel
theorem dX6_rule_87 : decode cX6_rule 87 = .ok (.imul, 1) := by decide +kernel
theorem dX6_rule_88 : decode cX6_rule 88 = .ok (.iadd, 1) := by decide +kernel
theorem dX6_rule_89 : decode cX6_rule 89 = .ok (.iload 4, 2) := by decide +kernel
theorem dX6_rule_91 : decode cX6_rule 91 = .ok (.iadd, 1) := by decide +kernel
theorem dX6_rule_92 : decode cX6_rule 92 = .ok (.iaload, 1) := by decide +kernel
theorem dX6_rule_93 : decode cX6_rule 93 = .ok (.istore 7, 2) := by decide +kernel
theorem dX6_rule_95 : decode cX6_rule 95 = .ok (.aload_n 0, 1) := by decide +kernel
theorem dX6_rule_96 : decode cX6_rule 96 = .ok (.getfield 7, 3) := by decide +kernel
theorem dX6_rule_99 : decode cX6_rule 99 = .ok (.sipush 637, 3) := by decide +kernel
theorem dX6_rule_102 : decode cX6_rule 102 = .ok (.iconst 4, 1) := by decide +kernel
theorem dX6_rule_103 : decode cX6_rule 103 = .ok (.iload 6, 2) := by decide +kernel
theorem dX6_rule_105 : decode cX6_rule 105 = .ok (.imul, 1) := by decide +kernel
theorem dX6_rule_106 : decode cX6_rule 106 = .ok (.iadd, 1) := by decide +kernel
theorem dX6_rule_107 : decode cX6_rule 107 = .ok (.iload 4, 2) := by decide +kernel
theorem dX6_rule_109 : decode cX6_rule 109 = .ok (.iadd, 1) := by decide +kernel
theorem dX6_rule_110 : decode cX6_rule 110 = .ok (.iload 5, 2) := by decide +kernel
theorem dX6_rule_112 : decode cX6_rule 112 = .ok (.iastore, 1) := by decide +kernel
theorem dX6_rule_113 : decode cX6_rule 113 = .ok (.iload 7, 2) := by decide +kernel
theorem dX6_rule_115 : decode cX6_rule 115 = .ok (.ireturn, 1) := by decide +kernel
theorem dX6_set_0 : decode cX6_set 0 = .ok (.aload_n 0, 1) := by decide +kernel
theorem dX6_set_1 : decode cX6_set 1 = .ok (.iconst 0, 1) := by decide +kernel
theorem dX6_set_2 : decode cX6_set 2 = .ok (.putfield 62, 3) := by decide +kernel
theorem dX6_set_5 : decode cX6_set 5 = .ok (.iload_n 1, 1) := by decide +kernel
theorem dX6_set_6 : decode cX6_set 6 = .ok (.iconst 1, 1) := by decide +kernel
theorem dX6_set_7 : decode cX6_set 7 = .ok (.bipush 60, 2) := by decide +kernel
theorem dX6_set_9 : decode cX6_set 9 = .ok (.invokestatic 66, 3) := by decide +kernel
theorem dX6_set_12 : decode cX6_set 12 = .ok (.ifCond .ne 9, 3) := by decide +kernel
theorem dX6_set_15 : decode cX6_set 15 = .ok (.aload_n 0, 1) := by decide +kernel
theorem dX6_set_16 : decode cX6_set 16 = .ok (.iconst 1, 1) := by decide +kernel
theorem dX6_set_17 : decode cX6_set 17 = .ok (.invokevirtual 88, 3) := by decide +kernel
theorem dX6_set_20 : decode cX6_set 20 = .ok (.ireturn, 1) := by decide +kernel
theorem dX6_set_21 : decode cX6_set 21 = .ok (.aload_n 0, 1) := by decide +kernel
theorem dX6_set_22 : decode cX6_set 22 = .ok (.invokevirtual 177, 3) := by decide +kernel
theorem dX6_set_25 : decode cX6_set 25 = .ok (.aload_n 0, 1) := by decide +kernel
theorem dX6_set_26 : decode cX6_set 26 = .ok (.getfield 7, 3) := by decide +kernel
theorem dX6_set_29 : decode cX6_set 29 = .ok (.iconst 1, 1) := by decide +kernel
theorem dX6_set_30 : decode cX6_set 30 = .ok (.iaload, 1) := by decide +kernel
theorem dX6_set_31 : decode cX6_set 31 = .ok (.istore_n 2, 1) := by decide +kernel
theorem dX6_set_32 : decode cX6_set 32 = .ok (.aload_n 0, 1) := by decide +kernel
theorem dX6_set_33 : decode cX6_set 33 = .ok (.getfield 7, 3) := by decide +kernel
theorem dX6_set_36 : decode cX6_set 36 = .ok (.iconst 1, 1) := by decide +kernel
theorem dX6_set_37 : decode cX6_set 37 = .ok (.iload_n 1, 1) := by decide +kernel
theorem dX6_set_38 : decode cX6_set 38 = .ok (.iastore, 1) := by decide +kernel
theorem dX6_set_39 : decode cX6_set 39 = .ok (.iload_n 2, 1) := by decide +kernel
theorem dX6_set_40 : decode cX6_set 40 = .ok (.ireturn, 1) := by decide +kernel
theorem dX6_append_0 : decode cX6_append 0 = .ok (.aload_n 0, 1) := by decide +kernel
theorem dX6_append_1 : decode cX6_append 1 = .ok (.iconst 0, 1) := by decide +kernel
theorem dX6_append_2 : decode cX6_append 2 = .ok (.putfield 62, 3) := by decide +kernel
theorem dX6_append_5 : decode cX6_append 5 = .ok (.iload_n 1, 1) := by decide +kernel
theorem dX6_append_6 : decode cX6_append 6 = .ok (.bipush 33, 2) := by decide +kernel
theorem dX6_append_8 : decode cX6_append 8 = .ok (.bipush 126, 2) := by decide +kernel
theorem dX6_append_10 : decode cX6_append 10 = .ok (.invokestatic 66, 3) := by decide +kernel
theorem dX6_append_13 : decode cX6_append 13 = .ok (.ifCond .ne 9, 3) := by decide +kernel
theorem dX6_append_16 : decode cX6_append 16 = .ok (.aload_n 0, 1) := by decide +kernel
theorem dX6_append_17 : decode cX6_append 17 = .ok (.iconst 1, 1) := by decide +kernel
theorem dX6_append_18 : decode cX6_append 18 = .ok (.invokevirtual 88, 3) := by decide +kernel
theorem dX6_append_21 : decode cX6_append 21 = .ok (.ireturn, 1) := by decide +kernel
theorem dX6_append_22 : decode cX6_append 22 = .ok (.aload_n 0, 1) := by decide +kernel
theorem dX6_append_23 : decode cX6_append 23 = .ok (.getfield 198, 3) := by decide +kernel
theorem dX6_append_26 : decode cX6_append 26 = .ok (.bipush 60, 2) := by decide +kernel
theorem dX6_append_28 : decode cX6_append 28 = .ok (.if_icmp .ne 9, 3) := by decide +kernel
theorem dX6_append_31 : decode cX6_append 31 = .ok (.aload_n 0, 1) := by decide +kernel
theorem dX6_append_32 : decode cX6_append 32 = .ok (.iconst 2, 1) := by decide +kernel
theorem dX6_append_33 : decode cX6_append 33 = .ok (.invokevirtual 88, 3) := by decide +kernel
theorem dX6_append_36 : decode cX6_append 36 = .ok (.ireturn, 1) := by decide +kernel
theorem dX6_append_37 : decode cX6_append 37 = .ok (.aload_n 0, 1) := by decide +kernel
theorem dX6_append_38 : decode cX6_append 38 = .ok (.getfield 19, 3) := by decide +kernel
theorem dX6_append_41 : decode cX6_append 41 = .ok (.aload_n 0, 1) := by decide +kernel
theorem dX6_append_42 : decode cX6_append 42 = .ok (.getfield 198, 3) := by decide +kernel
theorem dX6_append_45 : decode cX6_append 45 = .ok (.iload_n 1, 1) := by decide +kernel
theorem dX6_append_46 : decode cX6_append 46 = .ok (.iastore, 1) := by decide +kernel
theorem dX6_append_47 : decode cX6_append 47 = .ok (.aload_n 0, 1) := by decide +kernel
theorem dX6_append_48 : decode cX6_append 48 = .ok (.dup, 1) := by decide +kernel
theorem dX6_append_49 : decode cX6_append 49 = .ok (.getfield 198, 3) := by decide +kernel
theorem dX6_append_52 : decode cX6_append 52 = .ok (.iconst 1, 1) := by decide +kernel
theorem dX6_append_53 : decode cX6_append 53 = .ok (.iadd, 1) := by decide +kernel
theorem dX6_append_54 : decode cX6_append 54 = .ok (.putfield 198, 3) := by decide +kernel
theorem dX6_append_57 : decode cX6_append 57 = .ok (.aload_n 0, 1) := by decide +kernel
theorem dX6_append_58 : decode cX6_append 58 = .ok (.getfield 198, 3) := by decide +kernel
theorem dX6_append_61 : decode cX6_append 61 = .ok (.ireturn, 1) := by decide +kernel
theorem dX6_clearBuffer_0 : decode cX6_clearBuffer 0 = .ok (.aload_n 0, 1) := by decide +kernel
theorem dX6_clearBuffer_1 : decode cX6_clearBuffer 1 = .ok (.iconst 0, 1) := by decide +kernel
theorem dX6_clearBuffer_2 : decode cX6_clearBuffer 2 = .ok (.putfield 62, 3) := by decide +kernel
theorem dX6_clearBuffer_5 : decode cX6_clearBuffer 5 = .ok (.aload_n 0, 1) := by decide +kernel
theorem dX6_clearBuffer_6 : decode cX6_clearBuffer 6 = .ok (.getfield 198, 3) := by decide +kernel
theorem dX6_clearBuffer_9 : decode cX6_clearBuffer 9 = .ok (.istore_n 1, 1) := by decide +kernel
theorem dX6_clearBuffer_10 : decode cX6_clearBuffer 10 = .ok (.aload_n 0, 1) := by decide +kernel
theorem dX6_clearBuffer_11 : decode cX6_clearBuffer 11 = .ok (.iconst 0, 1) := by decide +kernel
theorem dX6_clearBuffer_12 : decode cX6_clearBuffer 12 = .ok (.putfield 198, 3) := by decide +kernel
theorem dX6_clearBuffer_15 : decode cX6_clearBuffer 15 = .ok (.iload_n 1, 1) := by decide +kernel
theorem dX6_clearBuffer_16 : decode cX6_clearBuffer 16 = .ok (.ireturn, 1) := by decide +kernel
theorem dX6_isAt_0 : decode cX6_isAt 0 = .ok (.aload_n 0, 1) := by decide +kernel
theorem dX6_isAt_1 : decode cX6_isAt 1 = .ok (.getfield 201, 3) := by decide +kernel
theorem dX6_isAt_4 : decode cX6_isAt 4 = .ok (.aload_n 0, 1) := by decide +kernel
theorem dX6_isAt_5 : decode cX6_isAt 5 = .ok (.getfield 198, 3) := by decide +kernel
theorem dX6_isAt_8 : decode cX6_isAt 8 = .ok (.if_icmp .ge 24, 3) := by decide +kernel
theorem dX6_isAt_11 : decode cX6_isAt 11 = .ok (.aload_n 0, 1) := by decide +kernel
theorem dX6_isAt_12 : decode cX6_isAt 12 = .ok (.getfield 19, 3) := by decide +kernel
theorem dX6_isAt_15 : decode cX6_isAt 15 = .ok (.aload_n 0, 1) := by decide +kernel
theorem dX6_isAt_16 : decode cX6_isAt 16 = .ok (.getfield 201, 3) := by decide +kernel
theorem dX6_isAt_19 : decode cX6_isAt 19 = .ok (.iaload, 1) := by decide +kernel
theorem dX6_isAt_20 : decode cX6_isAt 20 = .ok (.iload_n 1, 1) := by decide +kernel
theorem dX6_isAt_21 : decode cX6_isAt 21 = .ok (.iload_n 2, 1) := by decide +kernel
theorem dX6_isAt_22 : decode cX6_isAt 22 = .ok (.invokestatic 66, 3) := by decide +kernel
theorem dX6_isAt_25 : decode cX6_isAt 25 = .ok (.ifCond .eq 7, 3) := by decide +kernel
theorem dX6_isAt_28 : decode cX6_isAt 28 = .ok (.iconst 1, 1) := by decide +kernel
theorem dX6_isAt_29 : decode cX6_isAt 29 = .ok (.goto 4, 3) := by decide +kernel
theorem dX6_isAt_32 : decode cX6_isAt 32 = .ok (.iconst 0, 1) := by decide +kernel
theorem dX6_isAt_33 : decode cX6_isAt 33 = .ok (.ireturn, 1) := by decide +kernel
theorem dX6_stops_0 : decode cX6_stops 0 = .ok (.aload_n 0, 1) := by decide +kernel
theorem dX6_stops_1 : decode cX6_stops 1 = .ok (.aload_n 0, 1) := by decide +kernel
theorem dX6_stops_2 : decode cX6_stops 2 = .ok (.getfield 201, 3) := by decide +kernel
theorem dX6_stops_5 : decode cX6_stops 5 = .ok (.aload_n 0, 1) := by decide +kernel
theorem dX6_stops_6 : decode cX6_stops 6 = .ok (.getfield 198, 3) := by decide +kernel
theorem dX6_stops_9 : decode cX6_stops 9 = .ok (.if_icmp .ge 7, 3) := by decide +kernel
theorem dX6_stops_12 : decode cX6_stops 12 = .ok (.iconst 1, 1) := by decide +kernel
theorem dX6_stops_13 : decode cX6_stops 13 = .ok (.goto 4, 3) := by decide +kernel
theorem dX6_stops_16 : decode cX6_stops 16 = .ok (.iconst 0, 1) := by decide +kernel
theorem dX6_stops_17 : decode cX6_stops 17 = .ok (.putfield 204, 3) := by decide +kernel
theorem dX6_stops_20 : decode cX6_stops 20 = .ok (.iconst 0, 1) := by decide +kernel
theorem dX6_stops_21 : decode cX6_stops 21 = .ok (.ireturn, 1) := by decide +kernel
theorem dX6_isFigure_0 : decode cX6_isFigure 0 = .ok (.aload_n 0, 1) := by decide +kernel
theorem dX6_isFigure_1 : decode cX6_isFigure 1 = .ok (.iload_n 2, 1) := by decide +kernel
theorem dX6_isFigure_2 : decode cX6_isFigure 2 = .ok (.iload_n 3, 1) := by decide +kernel
theorem dX6_isFigure_3 : decode cX6_isFigure 3 = .ok (.invokevirtual 207, 3) := by decide +kernel
theorem dX6_isFigure_6 : decode cX6_isFigure 6 = .ok (.ifCond .ne 8, 3) := by decide +kernel
theorem dX6_isFigure_9 : decode cX6_isFigure 9 = .ok (.aload_n 0, 1) := by decide +kernel
theorem dX6_isFigure_10 : decode cX6_isFigure 10 = .ok (.invokevirtual 210, 3) := by decide +kernel
theorem dX6_isFigure_13 : decode cX6_isFigure 13 = .ok (.ireturn, 1) := by decide +kernel
theorem dX6_isFigure_14 : decode cX6_isFigure 14 = .ok (.aload_n 0, 1) := by decide +kernel
theorem dX6_isFigure_15 : decode cX6_isFigure 15 = .ok (.getfield 22, 3) := by decide +kernel
theorem dX6_isFigure_18 : decode cX6_isFigure 18 = .ok (.iconst 5, 1) := by decide +kernel
theorem dX6_isFigure_19 : decode cX6_isFigure 19 = .ok (.aload_n 0, 1) := by decide +kernel
theorem dX6_isFigure_20 : decode cX6_isFigure 20 = .ok (.getfield 214, 3) := by decide +kernel
theorem dX6_isFigure_23 : decode cX6_isFigure 23 = .ok (.imul, 1) := by decide +kernel
theorem dX6_isFigure_24 : decode cX6_isFigure 24 = .ok (.iload_n 1, 1) := by decide +kernel
theorem dX6_isFigure_25 : decode cX6_isFigure 25 = .ok (.iadd, 1) := by decide +kernel
theorem dX6_isFigure_26 : decode cX6_isFigure 26 = .ok (.aload_n 0, 1) := by decide +kernel
theorem dX6_isFigure_27 : decode cX6_isFigure 27 = .ok (.getfield 19, 3) := by decide +kernel
theorem dX6_isFigure_30 : decode cX6_isFigure 30 = .ok (.aload_n 0, 1) := by decide +kernel
theorem dX6_isFigure_31 : decode cX6_isFigure 31 = .ok (.getfield 201, 3) := by decide +kernel
theorem dX6_isFigure_34 : decode cX6_isFigure 34 = .ok (.iaload, 1) := by decide +kernel
theorem dX6_isFigure_35 : decode cX6_isFigure 35 = .ok (.iload_n 2, 1) := by decide +kernel
theorem dX6_isFigure_36 : decode cX6_isFigure 36 = .ok (.isub, 1) := by decide +kernel
theorem dX6_isFigure_37 : decode cX6_isFigure 37 = .ok (.iastore, 1) := by decide +kernel
theorem dX6_isFigure_38 : decode cX6_isFigure 38 = .ok (.aload_n 0, 1) := by decide +kernel
theorem dX6_isFigure_39 : decode cX6_isFigure 39 = .ok (.dup, 1) := by decide +kernel
theorem dX6_isFigure_40 : decode cX6_isFigure 40 = .ok (.getfield 201, 3) := by decide +kernel
theorem dX6_isFigure_43 : decode cX6_isFigure 43 = .ok (.iconst 1, 1) := by decide +kernel
theorem dX6_isFigure_44 : decode cX6_isFigure 44 = .ok (.iadd, 1) := by decide +kernel
theorem dX6_isFigure_45 : decode cX6_isFigure 45 = .ok (.putfield 201, 3) := by decide +kernel
theorem dX6_isFigure_48 : decode cX6_isFigure 48 = .ok (.iconst 1, 1) := by decide +kernel
theorem dX6_isFigure_49 : decode cX6_isFigure 49 = .ok (.ireturn, 1) := by decide +kernel
theorem dX6_isNumber_0 : decode cX6_isNumber 0 = .ok (.aload_n 0, 1) := by decide +kernel
theorem dX6_isNumber_1 : decode cX6_isNumber 1 = .ok (.iload_n 1, 1) := by decide +kernel
theorem dX6_isNumber_2 : decode cX6_isNumber 2 = .ok (.bipush 57, 2) := by decide +kernel
theorem dX6_isNumber_4 : decode cX6_isNumber 4 = .ok (.invokevirtual 207, 3) := by decide +kernel
theorem dX6_isNumber_7 : decode cX6_isNumber 7 = .ok (.ifCond .ne 8, 3) := by decide +kernel
theorem dX6_isNumber_10 : decode cX6_isNumber 10 = .ok (.aload_n 0, 1) := by decide +kernel
theorem dX6_isNumber_11 : decode cX6_isNumber 11 = .ok (.invokevirtual 210, 3) := by decide +kernel
theorem dX6_isNumber_14 : decode cX6_isNumber 14 = .ok (.ireturn, 1) := by decide +kernel
theorem dX6_isNumber_15 : decode cX6_isNumber 15 = .ok (.aload_n 0, 1) := by decide +kernel
theorem dX6_isNumber_16 : decode cX6_isNumber 16 = .ok (.aload_n 0, 1) := by decide +kernel
theorem dX6_isNumber_17 : decode cX6_isNumber 17 = .ok (.getfield 19, 3) := by decide +kernel
theorem dX6_isNumber_20 : decode cX6_isNumber 20 = .ok (.aload_n 0, 1) := by decide +kernel
theorem dX6_isNumber_21 : decode cX6_isNumber 21 = .ok (.getfield 201, 3) := by decide +kernel
theorem dX6_isNumber_24 : decode cX6_isNumber 24 = .ok (.iaload, 1) := by decide +kernel
theorem dX6_isNumber_25 : decode cX6_isNumber 25 = .ok (.bipush 48, 2) := by decide +kernel
theorem dX6_isNumber_27 : decode cX6_isNumber 27 = .ok (.isub, 1) := by decide +kernel
theorem dX6_isNumber_28 : decode cX6_isNumber 28 = .ok (.putfield 217, 3) := by decide +kernel
theorem dX6_isNumber_31 : decode cX6_isNumber 31 = .ok (.aload_n 0, 1) := by decide +kernel
theorem dX6_isNumber_32 : decode cX6_isNumber 32 = .ok (.dup, 1) := by decide +kernel
theorem dX6_isNumber_33 : decode cX6_isNumber 33 = .ok (.getfield 201, 3) := by decide +kernel
theorem dX6_isNumber_36 : decode cX6_isNumber 36 = .ok (.iconst 1, 1) := by decide +kernel
theorem dX6_isNumber_37 : decode cX6_isNumber 37 = .ok (.iadd, 1) := by decide +kernel
theorem dX6_isNumber_38 : decode cX6_isNumber 38 = .ok (.putfield 201, 3) := by decide +kernel
theorem dX6_isNumber_41 : decode cX6_isNumber 41 = .ok (.aload_n 0, 1) := by decide +kernel
theorem dX6_isNumber_42 : decode cX6_isNumber 42 = .ok (.getfield 217, 3) := by decide +kernel
theorem dX6_isNumber_45 : decode cX6_isNumber 45 = .ok (.ifCond .le 75, 3) := by decide +kernel
theorem dX6_isNumber_48 : decode cX6_isNumber 48 = .ok (.aload_n 0, 1) := by decide +kernel
theorem dX6_isNumber_49 : decode cX6_isNumber 49 = .ok (.bipush 48, 2) := by decide +kernel
theorem dX6_isNumber_51 : decode cX6_isNumber 51 = .ok (.bipush 57, 2) := by decide +kernel
theorem dX6_isNumber_53 : decode cX6_isNumber 53 = .ok (.invokevirtual 207, 3) := by decide +kernel
theorem dX6_isNumber_56 : decode cX6_isNumber 56 = .ok (.ifCond .eq 64, 3) := by decide +kernel
theorem dX6_isNumber_59 : decode cX6_isNumber 59 = .ok (.bipush 10, 2) := by decide +kernel
theorem dX6_isNumber_61 : decode cX6_isNumber 61 = .ok (.aload_n 0, 1) := by decide +kernel
theorem dX6_isNumber_62 : decode cX6_isNumber 62 = .ok (.getfield 217, 3) := by decide +kernel
theorem dX6_isNumber_65 : decode cX6_isNumber 65 = .ok (.imul, 1) := by decide +kernel
theorem dX6_isNumber_66 : decode cX6_isNumber 66 = .ok (.aload_n 0, 1) := by decide +kernel
theorem dX6_isNumber_67 : decode cX6_isNumber 67 = .ok (.getfield 19, 3) := by decide +kernel
theorem dX6_isNumber_70 : decode cX6_isNumber 70 = .ok (.aload_n 0, 1) := by decide +kernel
theorem dX6_isNumber_71 : decode cX6_isNumber 71 = .ok (.getfield 201, 3) := by decide +kernel
theorem dX6_isNumber_74 : decode cX6_isNumber 74 = .ok (.iaload, 1) := by decide +kernel
theorem dX6_isNumber_75 : decode cX6_isNumber 75 = .ok (.iadd, 1) := by decide +kernel
theorem dX6_isNumber_76 : decode cX6_isNumber 76 = .ok (.bipush 48, 2) := by decide +kernel
theorem dX6_isNumber_78 : decode cX6_isNumber 78 = .ok (.isub, 1) := by decide +kernel
theorem dX6_isNumber_79 : decode cX6_isNumber 79 = .ok (.iload_n 2, 1) := by decide +kernel
theorem dX6_isNumber_80 : decode cX6_isNumber 80 = .ok (.if_icmp .gt 40, 3) := by decide +kernel
theorem dX6_isNumber_83 : decode cX6_isNumber 83 = .ok (.aload_n 0, 1) := by decide +kernel
theorem dX6_isNumber_84 : decode cX6_isNumber 84 = .ok (.bipush 10, 2) := by decide +kernel
theorem dX6_isNumber_86 : decode cX6_isNumber 86 = .ok (.aload_n 0, 1) := by decide +kernel
theorem dX6_isNumber_87 : decode cX6_isNumber 87 = .ok (.getfield 217, 3) := by decide +kernel
theorem dX6_isNumber_90 : decode cX6_isNumber 90 = .ok (.imul, 1) := by decide +kernel
theorem dX6_isNumber_91 : decode cX6_isNumber 91 = .ok (.aload_n 0, 1) := by decide +kernel
theorem dX6_isNumber_92 : decode cX6_isNumber 92 = .ok (.getfield 19, 3) := by decide +kernel
theorem dX6_isNumber_95 : decode cX6_isNumber 95 = .ok (.aload_n 0, 1) := by decide +kernel
theorem dX6_isNumber_96 : decode cX6_isNumber 96 = .ok (.getfield 201, 3) := by decide +kernel
theorem dX6_isNumber_99 : decode cX6_isNumber 99 = .ok (.iaload, 1) := by decide +kernel
theorem dX6_isNumber_100 : decode cX6_isNumber 100 = .ok (.iadd, 1) := by decide +kernel
theorem dX6_isNumber_101 : decode cX6_isNumber 101 = .ok (.bipush 48, 2) := by decide +kernel
theorem dX6_isNumber_103 : decode cX6_isNumber 103 = .ok (.isub, 1) := by decide +kernel
theorem dX6_isNumber_104 : decode cX6_isNumber 104 = .ok (.putfield 217, 3) := by decide +kernel
theorem dX6_isNumber_107 : decode cX6_isNumber 107 = .ok (.aload_n 0, 1) := by decide +kernel
theorem dX6_isNumber_108 : decode cX6_isNumber 108 = .ok (.dup, 1) := by decide +kernel
theorem dX6_isNumber_109 : decode cX6_isNumber 109 = .ok (.getfield 201, 3) := by decide +kernel
theorem dX6_isNumber_112 : decode cX6_isNumber 112 = .ok (.iconst 1, 1) := by decide +kernel
theorem dX6_isNumber_113 : decode cX6_isNumber 113 = .ok (.iadd, 1) := by decide +kernel
theorem dX6_isNumber_114 : decode cX6_isNumber 114 = .ok (.putfield 201, 3) := by decide +kernel
theorem dX6_isNumber_117 : decode cX6_isNumber 117 = .ok (.goto (-76), 3) := by decide +kernel
theorem dX6_isNumber_120 : decode cX6_isNumber 120 = .ok (.iconst 1, 1) := by decide +kernel
theorem dX6_isNumber_121 : decode cX6_isNumber 121 = .ok (.ireturn, 1) := by decide +kernel
theorem dX6_isOrder_0 : decode cX6_isOrder 0 = .ok (.aload_n 0, 1) := by decide +kernel
theorem dX6_isOrder_1 : decode cX6_isOrder 1 = .ok (.iconst 0, 1) := by decide +kernel
theorem dX6_isOrder_2 : decode cX6_isOrder 2 = .ok (.bipush 48, 2) := by decide +kernel
theorem dX6_isOrder_4 : decode cX6_isOrder 4 = .ok (.bipush 52, 2) := by decide +kernel
theorem dX6_isOrder_6 : decode cX6_isOrder 6 = .ok (.invokevirtual 220, 3) := by decide +kernel
theorem dX6_isOrder_9 : decode cX6_isOrder 9 = .ok (.ifCond .eq 27, 3) := by decide +kernel
theorem dX6_isOrder_12 : decode cX6_isOrder 12 = .ok (.aload_n 0, 1) := by decide +kernel
theorem dX6_isOrder_13 : decode cX6_isOrder 13 = .ok (.iconst 2, 1) := by decide +kernel
theorem dX6_isOrder_14 : decode cX6_isOrder 14 = .ok (.bipush 97, 2) := by decide +kernel
theorem dX6_isOrder_16 : decode cX6_isOrder 16 = .ok (.bipush 101, 2) := by decide +kernel
theorem dX6_isOrder_18 : decode cX6_isOrder 18 = .ok (.invokevirtual 220, 3) := by decide +kernel
theorem dX6_isOrder_21 : decode cX6_isOrder 21 = .ok (.ifCond .eq 15, 3) := by decide +kernel
theorem dX6_isOrder_24 : decode cX6_isOrder 24 = .ok (.aload_n 0, 1) := by decide +kernel
theorem dX6_isOrder_25 : decode cX6_isOrder 25 = .ok (.iconst 1, 1) := by decide +kernel
theorem dX6_isOrder_26 : decode cX6_isOrder 26 = .ok (.bipush 49, 2) := by decide +kernel
theorem dX6_isOrder_28 : decode cX6_isOrder 28 = .ok (.bipush 53, 2) := by decide +kernel
theorem dX6_isOrder_30 : decode cX6_isOrder 30 = .ok (.invokevirtual 220, 3) := by decide +kernel
theorem dX6_isOrder_33 : decode cX6_isOrder 33 = .ok (.ifCond .ne 5, 3) := by decide +kernel
theorem dX6_isOrder_36 : decode cX6_isOrder 36 = .ok (.iconst 0, 1) := by decide +kernel
theorem dX6_isOrder_37 : decode cX6_isOrder 37 = .ok (.ireturn, 1) := by decide +kernel
theorem dX6_isOrder_38 : decode cX6_isOrder 38 = .ok (.aload_n 0, 1) := by decide +kernel
theorem dX6_isOrder_39 : decode cX6_isOrder 39 = .ok (.getfield 201, 3) := by decide +kernel
theorem dX6_isOrder_42 : decode cX6_isOrder 42 = .ok (.aload_n 0, 1) := by decide +kernel
theorem dX6_isOrder_43 : decode cX6_isOrder 43 = .ok (.getfield 198, 3) := by decide +kernel
theorem dX6_isOrder_46 : decode cX6_isOrder 46 = .ok (.if_icmp .ge 15, 3) := by decide +kernel
theorem dX6_isOrder_49 : decode cX6_isOrder 49 = .ok (.aload_n 0, 1) := by decide +kernel
theorem dX6_isOrder_50 : decode cX6_isOrder 50 = .ok (.getfield 19, 3) := by decide +kernel
theorem dX6_isOrder_53 : decode cX6_isOrder 53 = .ok (.aload_n 0, 1) := by decide +kernel
theorem dX6_isOrder_54 : decode cX6_isOrder 54 = .ok (.getfield 201, 3) := by decide +kernel
theorem dX6_isOrder_57 : decode cX6_isOrder 57 = .ok (.iaload, 1) := by decide +kernel
theorem dX6_isOrder_58 : decode cX6_isOrder 58 = .ok (.goto 4, 3) := by decide +kernel
theorem dX6_isOrder_61 : decode cX6_isOrder 61 = .ok (.iconst 0, 1) := by decide +kernel
theorem dX6_isOrder_62 : decode cX6_isOrder 62 = .ok (.istore_n 1, 1) := by decide +kernel
theorem dX6_isOrder_63 : decode cX6_isOrder 63 = .ok (.iload_n 1, 1) := by decide +kernel
theorem dX6_isOrder_64 : decode cX6_isOrder 64 = .ok (.bipush 61, 2) := by decide +kernel
theorem dX6_isOrder_66 : decode cX6_isOrder 66 = .ok (.if_icmp .ne 7, 3) := by decide +kernel
theorem dX6_isOrder_69 : decode cX6_isOrder 69 = .ok (.iconst 1, 1) := by decide +kernel
theorem dX6_isOrder_70 : decode cX6_isOrder 70 = .ok (.goto 55, 3) := by decide +kernel
theorem dX6_isOrder_73 : decode cX6_isOrder 73 = .ok (.iload_n 1, 1) := by decide +kernel
theorem dX6_isOrder_74 : decode cX6_isOrder 74 = .ok (.bipush 119, 2) := by decide +kernel
theorem dX6_isOrder_76 : decode cX6_isOrder 76 = .ok (.if_icmp .ne 7, 3) := by decide +kernel
theorem dX6_isOrder_79 : decode cX6_isOrder 79 = .ok (.iconst 2, 1) := by decide +kernel
theorem dX6_isOrder_80 : decode cX6_isOrder 80 = .ok (.goto 45, 3) := by decide +kernel
theorem dX6_isOrder_83 : decode cX6_isOrder 83 = .ok (.iload_n 1, 1) := by decide +kernel
theorem dX6_isOrder_84 : decode cX6_isOrder 84 = .ok (.bipush 94, 2) := by decide +kernel
theorem dX6_isOrder_86 : decode cX6_isOrder 86 = .ok (.if_icmp .ne 7, 3) := by decide +kernel
theorem dX6_isOrder_89 : decode cX6_isOrder 89 = .ok (.iconst 4, 1) := by decide +kernel
theorem dX6_isOrder_90 : decode cX6_isOrder 90 = .ok (.goto 35, 3) := by decide +kernel
theorem dX6_isOrder_93 : decode cX6_isOrder 93 = .ok (.iload_n 1, 1) := by decide +kernel
theorem dX6_isOrder_94 : decode cX6_isOrder 94 = .ok (.bipush 60, 2) := by decide +kernel
theorem dX6_isOrder_96 : decode cX6_isOrder 96 = .ok (.if_icmp .ne 7, 3) := by decide +kernel
theorem dX6_isOrder_99 : decode cX6_isOrder 99 = .ok (.iconst 5, 1) := by decide +kernel
theorem dX6_isOrder_100 : decode cX6_isOrder 100 = .ok (.goto 25, 3) := by decide +kernel
theorem dX6_isOrder_103 : decode cX6_isOrder 103 = .ok (.iload_n 1, 1) := by decide +kernel
theorem dX6_isOrder_104 : decode cX6_isOrder 104 = .ok (.bipush 35, 2) := by decide +kernel
theorem dX6_isOrder_106 : decode cX6_isOrder 106 = .ok (.if_icmp .ne 8, 3) := by decide +kernel
theorem dX6_isOrder_109 : decode cX6_isOrder 109 = .ok (.bipush 6, 2) := by decide +kernel
theorem dX6_isOrder_111 : decode cX6_isOrder 111 = .ok (.goto 14, 3) := by decide +kernel
theorem dX6_isOrder_114 : decode cX6_isOrder 114 = .ok (.iload_n 1, 1) := by decide +kernel
theorem dX6_isOrder_115 : decode cX6_isOrder 115 = .ok (.bipush 33, 2) := by decide +kernel
theorem dX6_isOrder_117 : decode cX6_isOrder 117 = .ok (.if_icmp .ne 7, 3) := by decide +kernel
theorem dX6_isOrder_120 : decode cX6_isOrder 120 = .ok (.iconst 0, 1) := by decide +kernel
theorem dX6_isOrder_121 : decode cX6_isOrder 121 = .ok (.goto 4, 3) := by decide +kernel
theorem dX6_isOrder_124 : decode cX6_isOrder 124 = .ok (.iconst (-1), 1) := by decide +kernel
theorem dX6_isOrder_125 : decode cX6_isOrder 125 = .ok (.istore_n 2, 1) := by decide +kernel
theorem dX6_isOrder_126 : decode cX6_isOrder 126 = .ok (.iload_n 2, 1) := by decide +kernel
theorem dX6_isOrder_127 : decode cX6_isOrder 127 = .ok (.iconst (-1), 1) := by decide +kernel
theorem dX6_isOrder_128 : decode cX6_isOrder 128 = .ok (.if_icmp .ne 8, 3) := by decide +kernel
theorem dX6_isOrder_131 : decode cX6_isOrder 131 = .ok (.aload_n 0, 1) := by decide +kernel
theorem dX6_isOrder_132 : decode cX6_isOrder 132 = .ok (.invokevirtual 210, 3) := by decide +kernel
theorem dX6_isOrder_135 : decode cX6_isOrder 135 = .ok (.ireturn, 1) := by decide +kernel
theorem dX6_isOrder_136 : decode cX6_isOrder 136 = .ok (.aload_n 0, 1) := by decide +kernel
theorem dX6_isOrder_137 : decode cX6_isOrder 137 = .ok (.dup, 1) := by decide +kernel
theorem dX6_isOrder_138 : decode cX6_isOrder 138 = .ok (.getfield 201, 3) := by decide +kernel
theorem dX6_isOrder_141 : decode cX6_isOrder 141 = .ok (.iconst 1, 1) := by decide +kernel
theorem dX6_isOrder_142 : decode cX6_isOrder 142 = .ok (.iadd, 1) := by decide +kernel
theorem dX6_isOrder_143 : decode cX6_isOrder 143 = .ok (.putfield 201, 3) := by decide +kernel
theorem dX6_isOrder_146 : decode cX6_isOrder 146 = .ok (.aload_n 0, 1) := by decide +kernel
theorem dX6_isOrder_147 : decode cX6_isOrder 147 = .ok (.getfield 22, 3) := by decide +kernel
theorem dX6_isOrder_150 : decode cX6_isOrder 150 = .ok (.iconst 5, 1) := by decide +kernel
theorem dX6_isOrder_151 : decode cX6_isOrder 151 = .ok (.aload_n 0, 1) := by decide +kernel
theorem dX6_isOrder_152 : decode cX6_isOrder 152 = .ok (.getfield 214, 3) := by decide +kernel
theorem dX6_isOrder_155 : decode cX6_isOrder 155 = .ok (.imul, 1) := by decide +kernel
theorem dX6_isOrder_156 : decode cX6_isOrder 156 = .ok (.iconst 3, 1) := by decide +kernel
theorem dX6_isOrder_157 : decode cX6_isOrder 157 = .ok (.iadd, 1) := by decide +kernel
theorem dX6_isOrder_158 : decode cX6_isOrder 158 = .ok (.iload_n 2, 1) := by decide +kernel
theorem dX6_isOrder_159 : decode cX6_isOrder 159 = .ok (.iastore, 1) := by decide +kernel
theorem dX6_isOrder_160 : decode cX6_isOrder 160 = .ok (.aload_n 0, 1) := by decide +kernel
theorem dX6_isOrder_161 : decode cX6_isOrder 161 = .ok (.getfield 22, 3) := by decide +kernel
theorem dX6_isOrder_164 : decode cX6_isOrder 164 = .ok (.iconst 5, 1) := by decide +kernel
theorem dX6_isOrder_165 : decode cX6_isOrder 165 = .ok (.aload_n 0, 1) := by decide +kernel
theorem dX6_isOrder_166 : decode cX6_isOrder 166 = .ok (.getfield 214, 3) := by decide +kernel
theorem dX6_isOrder_169 : decode cX6_isOrder 169 = .ok (.imul, 1) := by decide +kernel
theorem dX6_isOrder_170 : decode cX6_isOrder 170 = .ok (.iconst 4, 1) := by decide +kernel
theorem dX6_isOrder_171 : decode cX6_isOrder 171 = .ok (.iadd, 1) := by decide +kernel
theorem dX6_isOrder_172 : decode cX6_isOrder 172 = .ok (.iconst 0, 1) := by decide +kernel
theorem dX6_isOrder_173 : decode cX6_isOrder 173 = .ok (.iastore, 1) := by decide +kernel
theorem dX6_isOrder_174 : decode cX6_isOrder 174 = .ok (.iload_n 2, 1) := by decide +kernel
theorem dX6_isOrder_175 : decode cX6_isOrder 175 = .ok (.iconst 1, 1) := by decide +kernel
theorem dX6_isOrder_176 : decode cX6_isOrder 176 = .ok (.if_icmp .eq 10, 3) := by decide +kernel
theorem dX6_isOrder_179 : decode cX6_isOrder 179 = .ok (.iload_n 2, 1) := by decide +kernel
theorem dX6_isOrder_180 : decode cX6_isOrder 180 = .ok (.iconst 2, 1) := by decide +kernel
theorem dX6_isOrder_181 : decode cX6_isOrder 181 = .ok (.if_icmp .eq 5, 3) := by decide +kernel
theorem dX6_isOrder_184 : decode cX6_isOrder 184 = .ok (.iconst 1, 1) := by decide +kernel
theorem dX6_isOrder_185 : decode cX6_isOrder 185 = .ok (.ireturn, 1) := by decide +kernel
theorem dX6_isOrder_186 : decode cX6_isOrder 186 = .ok (.iload_n 2, 1) := by decide +kernel
theorem dX6_isOrder_187 : decode cX6_isOrder 187 = .ok (.iconst 1, 1) := by decide +kernel
theorem dX6_isOrder_188 : decode cX6_isOrder 188 = .ok (.if_icmp .ne 18, 3) := by decide +kernel
theorem dX6_isOrder_191 : decode cX6_isOrder 191 = .ok (.aload_n 0, 1) := by decide +kernel
theorem dX6_isOrder_192 : decode cX6_isOrder 192 = .ok (.bipush 45, 2) := by decide +kernel
theorem dX6_isOrder_194 : decode cX6_isOrder 194 = .ok (.bipush 45, 2) := by decide +kernel
theorem dX6_isOrder_196 : decode cX6_isOrder 196 = .ok (.invokevirtual 207, 3) := by decide +kernel
theorem dX6_isOrder_199 : decode cX6_isOrder 199 = .ok (.ifCond .eq 7, 3) := by decide +kernel
theorem dX6_isOrder_202 : decode cX6_isOrder 202 = .ok (.iconst 1, 1) := by decide +kernel
theorem dX6_isOrder_203 : decode cX6_isOrder 203 = .ok (.goto 4, 3) := by decide +kernel
theorem dX6_isOrder_206 : decode cX6_isOrder 206 = .ok (.iconst 0, 1) := by decide +kernel
theorem dX6_isOrder_207 : decode cX6_isOrder 207 = .ok (.istore_n 3, 1) := by decide +kernel
theorem dX6_isOrder_208 : decode cX6_isOrder 208 = .ok (.aload_n 0, 1) := by decide +kernel
theorem dX6_isOrder_209 : decode cX6_isOrder 209 = .ok (.dup, 1) := by decide +kernel
theorem dX6_isOrder_210 : decode cX6_isOrder 210 = .ok (.getfield 201, 3) := by decide +kernel
theorem dX6_isOrder_213 : decode cX6_isOrder 213 = .ok (.iload_n 3, 1) := by decide +kernel
theorem dX6_isOrder_214 : decode cX6_isOrder 214 = .ok (.ifCond .eq 7, 3) := by decide +kernel
theorem dX6_isOrder_217 : decode cX6_isOrder 217 = .ok (.iconst 1, 1) := by decide +kernel
theorem dX6_isOrder_218 : decode cX6_isOrder 218 = .ok (.goto 4, 3) := by decide +kernel
theorem dX6_isOrder_221 : decode cX6_isOrder 221 = .ok (.iconst 0, 1) := by decide +kernel
theorem dX6_isOrder_222 : decode cX6_isOrder 222 = .ok (.iadd, 1) := by decide +kernel
theorem dX6_isOrder_223 : decode cX6_isOrder 223 = .ok (.putfield 201, 3) := by decide +kernel
theorem dX6_isOrder_226 : decode cX6_isOrder 226 = .ok (.aload_n 0, 1) := by decide +kernel
theorem dX6_isOrder_227 : decode cX6_isOrder 227 = .ok (.iload_n 2, 1) := by decide +kernel
theorem dX6_isOrder_228 : decode cX6_isOrder 228 = .ok (.iconst 2, 1) := by decide +kernel
theorem dX6_isOrder_229 : decode cX6_isOrder 229 = .ok (.if_icmp .ne 8, 3) := by decide +kernel
theorem dX6_isOrder_232 : decode cX6_isOrder 232 = .ok (.bipush 49, 2) := by decide +kernel
theorem dX6_isOrder_234 : decode cX6_isOrder 234 = .ok (.goto 5, 3) := by decide +kernel
theorem dX6_isOrder_237 : decode cX6_isOrder 237 = .ok (.bipush 48, 2) := by decide +kernel
theorem dX6_isOrder_239 : decode cX6_isOrder 239 = .ok (.iload_n 2, 1) := by decide +kernel
theorem dX6_isOrder_240 : decode cX6_isOrder 240 = .ok (.iconst 2, 1) := by decide +kernel
theorem dX6_isOrder_241 : decode cX6_isOrder 241 = .ok (.if_icmp .ne 8, 3) := by decide +kernel
theorem dX6_isOrder_244 : decode cX6_isOrder 244 = .ok (.bipush 12, 2) := by decide +kernel
theorem dX6_isOrder_246 : decode cX6_isOrder 246 = .ok (.goto 6, 3) := by decide +kernel
theorem dX6_isOrder_249 : decode cX6_isOrder 249 = .ok (.sipush 999, 3) := by decide +kernel
theorem dX6_isOrder_252 : decode cX6_isOrder 252 = .ok (.invokevirtual 223, 3) := by decide +kernel
theorem dX6_isOrder_255 : decode cX6_isOrder 255 = .ok (.ifCond .ne 5, 3) := by decide +kernel
theorem dX6_isOrder_258 : decode cX6_isOrder 258 = .ok (.iconst 0, 1) := by decide +kernel
theorem dX6_isOrder_259 : decode cX6_isOrder 259 = .ok (.ireturn, 1) := by decide +kernel
theorem dX6_isOrder_260 : decode cX6_isOrder 260 = .ok (.aload_n 0, 1) := by decide +kernel
theorem dX6_isOrder_261 : decode cX6_isOrder 261 = .ok (.getfield 22, 3) := by decide +kernel
theorem dX6_isOrder_264 : decode cX6_isOrder 264 = .ok (.iconst 5, 1) := by decide +kernel
theorem dX6_isOrder_265 : decode cX6_isOrder 265 = .ok (.aload_n 0, 1) := by decide +kernel
theorem dX6_isOrder_266 : decode cX6_isOrder 266 = .ok (.getfield 214, 3) := by decide +kernel
theorem dX6_isOrder_269 : decode cX6_isOrder 269 = .ok (.imul, 1) := by decide +kernel
theorem dX6_isOrder_270 : decode cX6_isOrder 270 = .ok (.iconst 4, 1) := by decide +kernel
theorem dX6_isOrder_271 : decode cX6_isOrder 271 = .ok (.iadd, 1) := by decide +kernel
theorem dX6_isOrder_272 : decode cX6_isOrder 272 = .ok (.iload_n 3, 1) := by decide +kernel
theorem dX6_isOrder_273 : decode cX6_isOrder 273 = .ok (.ifCond .eq 11, 3) := by decide +kernel
theorem dX6_isOrder_276 : decode cX6_isOrder 276 = .ok (.aload_n 0, 1) := by decide +kernel
theorem dX6_isOrder_277 : decode cX6_isOrder 277 = .ok (.getfield 217, 3) := by decide +kernel
theorem dX6_isOrder_280 : decode cX6_isOrder 280 = .ok (.ineg, 1) := by decide +kernel
theorem dX6_isOrder_281 : decode cX6_isOrder 281 = .ok (.goto 7, 3) := by decide +kernel
theorem dX6_isOrder_284 : decode cX6_isOrder 284 = .ok (.aload_n 0, 1) := by decide +kernel
theorem dX6_isOrder_285 : decode cX6_isOrder 285 = .ok (.getfield 217, 3) := by decide +kernel
theorem dX6_isOrder_288 : decode cX6_isOrder 288 = .ok (.iastore, 1) := by decide +kernel
theorem dX6_isOrder_289 : decode cX6_isOrder 289 = .ok (.iconst 1, 1) := by decide +kernel
theorem dX6_isOrder_290 : decode cX6_isOrder 290 = .ok (.ireturn, 1) := by decide +kernel
theorem dX6_isText_0 : decode cX6_isText 0 = .ok (.aload_n 0, 1) := by decide +kernel
theorem dX6_isText_1 : decode cX6_isText 1 = .ok (.iconst 0, 1) := by decide +kernel
theorem dX6_isText_2 : decode cX6_isText 2 = .ok (.putfield 201, 3) := by decide +kernel
theorem dX6_isText_5 : decode cX6_isText 5 = .ok (.aload_n 0, 1) := by decide +kernel
theorem dX6_isText_6 : decode cX6_isText 6 = .ok (.iconst 0, 1) := by decide +kernel
theorem dX6_isText_7 : decode cX6_isText 7 = .ok (.putfield 214, 3) := by decide +kernel
theorem dX6_isText_10 : decode cX6_isText 10 = .ok (.aload_n 0, 1) := by decide +kernel
theorem dX6_isText_11 : decode cX6_isText 11 = .ok (.iconst 0, 1) := by decide +kernel
theorem dX6_isText_12 : decode cX6_isText 12 = .ok (.putfield 204, 3) := by decide +kernel
theorem dX6_isText_15 : decode cX6_isText 15 = .ok (.iconst 1, 1) := by decide +kernel
theorem dX6_isText_16 : decode cX6_isText 16 = .ok (.istore_n 1, 1) := by decide +kernel
theorem dX6_isText_17 : decode cX6_isText 17 = .ok (.iload_n 1, 1) := by decide +kernel
theorem dX6_isText_18 : decode cX6_isText 18 = .ok (.ifCond .eq 52, 3) := by decide +kernel
theorem dX6_isText_21 : decode cX6_isText 21 = .ok (.aload_n 0, 1) := by decide +kernel
theorem dX6_isText_22 : decode cX6_isText 22 = .ok (.invokevirtual 226, 3) := by decide +kernel
theorem dX6_isText_25 : decode cX6_isText 25 = .ok (.ifCond .ne 5, 3) := by decide +kernel
theorem dX6_isText_28 : decode cX6_isText 28 = .ok (.iconst 0, 1) := by decide +kernel
theorem dX6_isText_29 : decode cX6_isText 29 = .ok (.ireturn, 1) := by decide +kernel
theorem dX6_isText_30 : decode cX6_isText 30 = .ok (.aload_n 0, 1) := by decide +kernel
theorem dX6_isText_31 : decode cX6_isText 31 = .ok (.dup, 1) := by decide +kernel
theorem dX6_isText_32 : decode cX6_isText 32 = .ok (.getfield 214, 3) := by decide +kernel
theorem dX6_isText_35 : decode cX6_isText 35 = .ok (.iconst 1, 1) := by decide +kernel
theorem dX6_isText_36 : decode cX6_isText 36 = .ok (.iadd, 1) := by decide +kernel
theorem dX6_isText_37 : decode cX6_isText 37 = .ok (.putfield 214, 3) := by decide +kernel
theorem dX6_isText_40 : decode cX6_isText 40 = .ok (.aload_n 0, 1) := by decide +kernel
theorem dX6_isText_41 : decode cX6_isText 41 = .ok (.bipush 59, 2) := by decide +kernel
theorem dX6_isText_43 : decode cX6_isText 43 = .ok (.bipush 59, 2) := by decide +kernel
theorem dX6_isText_45 : decode cX6_isText 45 = .ok (.invokevirtual 207, 3) := by decide +kernel
theorem dX6_isText_48 : decode cX6_isText 48 = .ok (.istore_n 1, 1) := by decide +kernel
theorem dX6_isText_49 : decode cX6_isText 49 = .ok (.aload_n 0, 1) := by decide +kernel
theorem dX6_isText_50 : decode cX6_isText 50 = .ok (.dup, 1) := by decide +kernel
theorem dX6_isText_51 : decode cX6_isText 51 = .ok (.getfield 201, 3) := by decide +kernel
theorem dX6_isText_54 : decode cX6_isText 54 = .ok (.iload_n 1, 1) := by decide +kernel
theorem dX6_isText_55 : decode cX6_isText 55 = .ok (.ifCond .eq 7, 3) := by decide +kernel
theorem dX6_isText_58 : decode cX6_isText 58 = .ok (.iconst 1, 1) := by decide +kernel
theorem dX6_isText_59 : decode cX6_isText 59 = .ok (.goto 4, 3) := by decide +kernel
theorem dX6_isText_62 : decode cX6_isText 62 = .ok (.iconst 0, 1) := by decide +kernel
theorem dX6_isText_63 : decode cX6_isText 63 = .ok (.iadd, 1) := by decide +kernel
theorem dX6_isText_64 : decode cX6_isText 64 = .ok (.putfield 201, 3) := by decide +kernel
theorem dX6_isText_67 : decode cX6_isText 67 = .ok (.goto (-50), 3) := by decide +kernel
theorem dX6_isText_70 : decode cX6_isText 70 = .ok (.aload_n 0, 1) := by decide +kernel
theorem dX6_isText_71 : decode cX6_isText 71 = .ok (.aload_n 0, 1) := by decide +kernel
theorem dX6_isText_72 : decode cX6_isText 72 = .ok (.getfield 201, 3) := by decide +kernel
theorem dX6_isText_75 : decode cX6_isText 75 = .ok (.aload_n 0, 1) := by decide +kernel
theorem dX6_isText_76 : decode cX6_isText 76 = .ok (.getfield 198, 3) := by decide +kernel
theorem dX6_isText_79 : decode cX6_isText 79 = .ok (.if_icmp .ge 7, 3) := by decide +kernel
theorem dX6_isText_82 : decode cX6_isText 82 = .ok (.iconst 1, 1) := by decide +kernel
theorem dX6_isText_83 : decode cX6_isText 83 = .ok (.goto 4, 3) := by decide +kernel
theorem dX6_isText_86 : decode cX6_isText 86 = .ok (.iconst 0, 1) := by decide +kernel
theorem dX6_isText_87 : decode cX6_isText 87 = .ok (.putfield 204, 3) := by decide +kernel
theorem dX6_isText_90 : decode cX6_isText 90 = .ok (.aload_n 0, 1) := by decide +kernel
theorem dX6_isText_91 : decode cX6_isText 91 = .ok (.getfield 201, 3) := by decide +kernel
theorem dX6_isText_94 : decode cX6_isText 94 = .ok (.aload_n 0, 1) := by decide +kernel
theorem dX6_isText_95 : decode cX6_isText 95 = .ok (.getfield 198, 3) := by decide +kernel
theorem dX6_isText_98 : decode cX6_isText 98 = .ok (.if_icmp .ne 7, 3) := by decide +kernel
theorem dX6_isText_101 : decode cX6_isText 101 = .ok (.iconst 1, 1) := by decide +kernel
theorem dX6_isText_102 : decode cX6_isText 102 = .ok (.goto 4, 3) := by decide +kernel
theorem dX6_isText_105 : decode cX6_isText 105 = .ok (.iconst 0, 1) := by decide +kernel
theorem dX6_isText_106 : decode cX6_isText 106 = .ok (.ireturn, 1) := by decide +kernel
theorem dX6_firstError_0 : decode cX6_firstError 0 = .ok (.aload_n 0, 1) := by decide +kernel
theorem dX6_firstError_1 : decode cX6_firstError 1 = .ok (.iconst 0, 1) := by decide +kernel
theorem dX6_firstError_2 : decode cX6_firstError 2 = .ok (.putfield 62, 3) := by decide +kernel
theorem dX6_firstError_5 : decode cX6_firstError 5 = .ok (.aload_n 0, 1) := by decide +kernel
theorem dX6_firstError_6 : decode cX6_firstError 6 = .ok (.invokevirtual 229, 3) := by decide +kernel
theorem dX6_firstError_9 : decode cX6_firstError 9 = .ok (.istore_n 1, 1) := by decide +kernel
theorem dX6_firstError_10 : decode cX6_firstError 10 = .ok (.iload_n 1, 1) := by decide +kernel
theorem dX6_firstError_11 : decode cX6_firstError 11 = .ok (.ifCond .ne 17, 3) := by decide +kernel
theorem dX6_firstError_14 : decode cX6_firstError 14 = .ok (.aload_n 0, 1) := by decide +kernel
theorem dX6_firstError_15 : decode cX6_firstError 15 = .ok (.getfield 204, 3) := by decide +kernel
theorem dX6_firstError_18 : decode cX6_firstError 18 = .ok (.ifCond .eq 10, 3) := by decide +kernel
theorem dX6_firstError_21 : decode cX6_firstError 21 = .ok (.aload_n 0, 1) := by decide +kernel
theorem dX6_firstError_22 : decode cX6_firstError 22 = .ok (.getfield 201, 3) := by decide +kernel
theorem dX6_firstError_25 : decode cX6_firstError 25 = .ok (.goto 7, 3) := by decide +kernel
theorem dX6_firstError_28 : decode cX6_firstError 28 = .ok (.aload_n 0, 1) := by decide +kernel
theorem dX6_firstError_29 : decode cX6_firstError 29 = .ok (.getfield 198, 3) := by decide +kernel
theorem dX6_firstError_32 : decode cX6_firstError 32 = .ok (.ireturn, 1) := by decide +kernel
theorem dX6_does_0 : decode cX6_does 0 = .ok (.aload_n 0, 1) := by decide +kernel
theorem dX6_does_1 : decode cX6_does 1 = .ok (.getfield 22, 3) := by decide +kernel
theorem dX6_does_4 : decode cX6_does 4 = .ok (.iconst 5, 1) := by decide +kernel
theorem dX6_does_5 : decode cX6_does 5 = .ok (.iload_n 1, 1) := by decide +kernel
theorem dX6_does_6 : decode cX6_does 6 = .ok (.imul, 1) := by decide +kernel
theorem dX6_does_7 : decode cX6_does 7 = .ok (.iaload, 1) := by decide +kernel
theorem dX6_does_8 : decode cX6_does 8 = .ok (.istore_n 2, 1) := by decide +kernel
theorem dX6_does_9 : decode cX6_does 9 = .ok (.aload_n 0, 1) := by decide +kernel
theorem dX6_does_10 : decode cX6_does 10 = .ok (.getfield 22, 3) := by decide +kernel
theorem dX6_does_13 : decode cX6_does 13 = .ok (.iconst 5, 1) := by decide +kernel
theorem dX6_does_14 : decode cX6_does 14 = .ok (.iload_n 1, 1) := by decide +kernel
theorem dX6_does_15 : decode cX6_does 15 = .ok (.imul, 1) := by decide +kernel
theorem dX6_does_16 : decode cX6_does 16 = .ok (.iconst 1, 1) := by decide +kernel
theorem dX6_does_17 : decode cX6_does 17 = .ok (.iadd, 1) := by decide +kernel
theorem dX6_does_18 : decode cX6_does 18 = .ok (.iaload, 1) := by decide +kernel
theorem dX6_does_19 : decode cX6_does 19 = .ok (.istore_n 3, 1) := by decide +kernel
theorem dX6_does_20 : decode cX6_does 20 = .ok (.aload_n 0, 1) := by decide +kernel
theorem dX6_does_21 : decode cX6_does 21 = .ok (.getfield 22, 3) := by decide +kernel
theorem dX6_does_24 : decode cX6_does 24 = .ok (.iconst 5, 1) := by decide +kernel
theorem dX6_does_25 : decode cX6_does 25 = .ok (.iload_n 1, 1) := by decide +kernel
theorem dX6_does_26 : decode cX6_does 26 = .ok (.imul, 1) := by decide +kernel
theorem dX6_does_27 : decode cX6_does 27 = .ok (.iconst 2, 1) := by decide +kernel
theorem dX6_does_28 : decode cX6_does 28 = .ok (.iadd, 1) := by decide +kernel
theorem dX6_does_29 : decode cX6_does 29 = .ok (.iaload, 1) := by decide +kernel
theorem dX6_does_30 : decode cX6_does 30 = .ok (.istore 4, 2) := by decide +kernel
theorem dX6_does_32 : decode cX6_does 32 = .ok (.aload_n 0, 1) := by decide +kernel
theorem dX6_does_33 : decode cX6_does 33 = .ok (.iload_n 2, 1) := by decide +kernel
theorem dX6_does_34 : decode cX6_does 34 = .ok (.iload_n 3, 1) := by decide +kernel
theorem dX6_does_35 : decode cX6_does 35 = .ok (.iload 4, 2) := by decide +kernel
theorem dX6_does_37 : decode cX6_does 37 = .ok (.aload_n 0, 1) := by decide +kernel
theorem dX6_does_38 : decode cX6_does 38 = .ok (.getfield 22, 3) := by decide +kernel
theorem dX6_does_41 : decode cX6_does 41 = .ok (.iconst 5, 1) := by decide +kernel
theorem dX6_does_42 : decode cX6_does 42 = .ok (.iload_n 1, 1) := by decide +kernel
theorem dX6_does_43 : decode cX6_does 43 = .ok (.imul, 1) := by decide +kernel
theorem dX6_does_44 : decode cX6_does 44 = .ok (.iconst 3, 1) := by decide +kernel
theorem dX6_does_45 : decode cX6_does 45 = .ok (.iadd, 1) := by decide +kernel
theorem dX6_does_46 : decode cX6_does 46 = .ok (.iaload, 1) := by decide +kernel
theorem dX6_does_47 : decode cX6_does 47 = .ok (.aload_n 0, 1) := by decide +kernel
theorem dX6_does_48 : decode cX6_does 48 = .ok (.getfield 22, 3) := by decide +kernel
theorem dX6_does_51 : decode cX6_does 51 = .ok (.iconst 5, 1) := by decide +kernel
theorem dX6_does_52 : decode cX6_does 52 = .ok (.iload_n 1, 1) := by decide +kernel
theorem dX6_does_53 : decode cX6_does 53 = .ok (.imul, 1) := by decide +kernel
theorem dX6_does_54 : decode cX6_does 54 = .ok (.iconst 4, 1) := by decide +kernel
theorem dX6_does_55 : decode cX6_does 55 = .ok (.iadd, 1) := by decide +kernel
theorem dX6_does_56 : decode cX6_does 56 = .ok (.iaload, 1) := by decide +kernel
theorem dX6_does_57 : decode cX6_does 57 = .ok (.invokevirtual 187, 3) := by decide +kernel
theorem dX6_does_60 : decode cX6_does 60 = .ok (.ifCond .ne 7, 3) := by decide +kernel
theorem dX6_does_63 : decode cX6_does 63 = .ok (.iconst 1, 1) := by decide +kernel
theorem dX6_does_64 : decode cX6_does 64 = .ok (.goto 4, 3) := by decide +kernel
theorem dX6_does_67 : decode cX6_does 67 = .ok (.iconst 0, 1) := by decide +kernel
theorem dX6_does_68 : decode cX6_does 68 = .ok (.istore 5, 2) := by decide +kernel
theorem dX6_does_70 : decode cX6_does 70 = .ok (.iload 5, 2) := by decide +kernel
theorem dX6_does_72 : decode cX6_does 72 = .ok (.ifCond .eq 38, 3) := by decide +kernel
theorem dX6_does_75 : decode cX6_does 75 = .ok (.aload_n 0, 1) := by decide +kernel
theorem dX6_does_76 : decode cX6_does 76 = .ok (.getfield 7, 3) := by decide +kernel
theorem dX6_does_79 : decode cX6_does 79 = .ok (.iload_n 2, 1) := by decide +kernel
theorem dX6_does_80 : decode cX6_does 80 = .ok (.iload_n 3, 1) := by decide +kernel
theorem dX6_does_81 : decode cX6_does 81 = .ok (.iload 4, 2) := by decide +kernel
theorem dX6_does_83 : decode cX6_does 83 = .ok (.invokestatic 125, 3) := by decide +kernel
theorem dX6_does_86 : decode cX6_does 86 = .ok (.aload_n 0, 1) := by decide +kernel
theorem dX6_does_87 : decode cX6_does 87 = .ok (.getfield 22, 3) := by decide +kernel
theorem dX6_does_90 : decode cX6_does 90 = .ok (.iconst 5, 1) := by decide +kernel
theorem dX6_does_91 : decode cX6_does 91 = .ok (.iload_n 1, 1) := by decide +kernel
theorem dX6_does_92 : decode cX6_does 92 = .ok (.imul, 1) := by decide +kernel
theorem dX6_does_93 : decode cX6_does 93 = .ok (.iconst 3, 1) := by decide +kernel
theorem dX6_does_94 : decode cX6_does 94 = .ok (.iadd, 1) := by decide +kernel
theorem dX6_does_95 : decode cX6_does 95 = .ok (.iaload, 1) := by decide +kernel
theorem dX6_does_96 : decode cX6_does 96 = .ok (.aload_n 0, 1) := by decide +kernel
theorem dX6_does_97 : decode cX6_does 97 = .ok (.getfield 22, 3) := by decide +kernel
theorem dX6_does_100 : decode cX6_does 100 = .ok (.iconst 5, 1) := by decide +kernel
theorem dX6_does_101 : decode cX6_does 101 = .ok (.iload_n 1, 1) := by decide +kernel
theorem dX6_does_102 : decode cX6_does 102 = .ok (.imul, 1) := by decide +kernel
theorem dX6_does_103 : decode cX6_does 103 = .ok (.iconst 4, 1) := by decide +kernel
theorem dX6_does_104 : decode cX6_does 104 = .ok (.iadd, 1) := by decide +kernel
theorem dX6_does_105 : decode cX6_does 105 = .ok (.iaload, 1) := by decide +kernel
theorem dX6_does_106 : decode cX6_does 106 = .ok (.invokestatic 191, 3) := by decide +kernel
theorem dX6_does_109 : decode cX6_does 109 = .ok (.pop, 1) := by decide +kernel
theorem dX6_does_110 : decode cX6_does 110 = .ok (.iload 5, 2) := by decide +kernel
theorem dX6_does_112 : decode cX6_does 112 = .ok (.ireturn, 1) := by decide +kernel
theorem dX6_run_0 : decode cX6_run 0 = .ok (.aload_n 0, 1) := by decide +kernel
theorem dX6_run_1 : decode cX6_run 1 = .ok (.iconst 0, 1) := by decide +kernel
theorem dX6_run_2 : decode cX6_run 2 = .ok (.putfield 62, 3) := by decide +kernel
theorem dX6_run_5 : decode cX6_run 5 = .ok (.aload_n 0, 1) := by decide +kernel
theorem dX6_run_6 : decode cX6_run 6 = .ok (.invokevirtual 229, 3) := by decide +kernel
theorem dX6_run_9 : decode cX6_run 9 = .ok (.ifCond .ne 9, 3) := by decide +kernel
theorem dX6_run_12 : decode cX6_run 12 = .ok (.aload_n 0, 1) := by decide +kernel
theorem dX6_run_13 : decode cX6_run 13 = .ok (.iconst 1, 1) := by decide +kernel
theorem dX6_run_14 : decode cX6_run 14 = .ok (.invokevirtual 88, 3) := by decide +kernel
theorem dX6_run_17 : decode cX6_run 17 = .ok (.ireturn, 1) := by decide +kernel
theorem dX6_run_18 : decode cX6_run 18 = .ok (.aload_n 0, 1) := by decide +kernel
theorem dX6_run_19 : decode cX6_run 19 = .ok (.invokevirtual 177, 3) := by decide +kernel
theorem dX6_run_22 : decode cX6_run 22 = .ok (.aload_n 0, 1) := by decide +kernel
theorem dX6_run_23 : decode cX6_run 23 = .ok (.iconst 0, 1) := by decide +kernel
theorem dX6_run_24 : decode cX6_run 24 = .ok (.putfield 198, 3) := by decide +kernel
theorem dX6_run_27 : decode cX6_run 27 = .ok (.iconst 0, 1) := by decide +kernel
theorem dX6_run_28 : decode cX6_run 28 = .ok (.istore_n 1, 1) := by decide +kernel
theorem dX6_run_29 : decode cX6_run 29 = .ok (.iload_n 1, 1) := by decide +kernel
theorem dX6_run_30 : decode cX6_run 30 = .ok (.aload_n 0, 1) := by decide +kernel
theorem dX6_run_31 : decode cX6_run 31 = .ok (.getfield 214, 3) := by decide +kernel
theorem dX6_run_34 : decode cX6_run 34 = .ok (.if_icmp .ge 17, 3) := by decide +kernel
theorem dX6_run_37 : decode cX6_run 37 = .ok (.aload_n 0, 1) := by decide +kernel
theorem dX6_run_38 : decode cX6_run 38 = .ok (.iload_n 1, 1) := by decide +kernel
theorem dX6_run_39 : decode cX6_run 39 = .ok (.invokevirtual 232, 3) := by decide +kernel
theorem dX6_run_42 : decode cX6_run 42 = .ok (.ifCond .eq 9, 3) := by decide +kernel
theorem dX6_run_45 : decode cX6_run 45 = .ok (.iinc 1 1, 3) := by decide +kernel
theorem dX6_run_48 : decode cX6_run 48 = .ok (.goto (-19), 3) := by decide +kernel
theorem dX6_run_51 : decode cX6_run 51 = .ok (.iload_n 1, 1) := by decide +kernel
theorem dX6_run_52 : decode cX6_run 52 = .ok (.ireturn, 1) := by decide +kernel
theorem dX6_ofCell_0 : decode cX6_ofCell 0 = .ok (.aload_n 0, 1) := by decide +kernel
theorem dX6_ofCell_1 : decode cX6_ofCell 1 = .ok (.getfield 7, 3) := by decide +kernel
theorem dX6_ofCell_4 : decode cX6_ofCell 4 = .ok (.iload_n 1, 1) := by decide +kernel
theorem dX6_ofCell_5 : decode cX6_ofCell 5 = .ok (.invokestatic 103, 3) := by decide +kernel
theorem dX6_ofCell_8 : decode cX6_ofCell 8 = .ok (.ifCond .ne 5, 3) := by decide +kernel
theorem dX6_ofCell_11 : decode cX6_ofCell 11 = .ok (.iconst (-1), 1) := by decide +kernel
theorem dX6_ofCell_12 : decode cX6_ofCell 12 = .ok (.ireturn, 1) := by decide +kernel
theorem dX6_ofCell_13 : decode cX6_ofCell 13 = .ok (.iload_n 2, 1) := by decide +kernel
theorem dX6_ofCell_14 : decode cX6_ofCell 14 = .ok (.tableswitch 143 0 7 #[46, 56, 66, 73, 84, 95, 105, 115], 46) := by decide +kernel
theorem dX6_ofCell_60 : decode cX6_ofCell 60 = .ok (.aload_n 0, 1) := by decide +kernel
theorem dX6_ofCell_61 : decode cX6_ofCell 61 = .ok (.getfield 7, 3) := by decide +kernel
theorem dX6_ofCell_64 : decode cX6_ofCell 64 = .ok (.bipush 12, 2) := by decide +kernel
theorem dX6_ofCell_66 : decode cX6_ofCell 66 = .ok (.iload_n 1, 1) := by decide +kernel
theorem dX6_ofCell_67 : decode cX6_ofCell 67 = .ok (.iadd, 1) := by decide +kernel
theorem dX6_ofCell_68 : decode cX6_ofCell 68 = .ok (.iaload, 1) := by decide +kernel
theorem dX6_ofCell_69 : decode cX6_ofCell 69 = .ok (.ireturn, 1) := by decide +kernel
theorem dX6_ofCell_70 : decode cX6_ofCell 70 = .ok (.aload_n 0, 1) := by decide +kernel
theorem dX6_ofCell_71 : decode cX6_ofCell 71 = .ok (.aload_n 0, 1) := by decide +kernel
theorem dX6_ofCell_72 : decode cX6_ofCell 72 = .ok (.getfield 7, 3) := by decide +kernel
theorem dX6_ofCell_75 : decode cX6_ofCell 75 = .ok (.iload_n 1, 1) := by decide +kernel
theorem dX6_ofCell_76 : decode cX6_ofCell 76 = .ok (.invokevirtual 122, 3) := by decide +kernel
theorem dX6_ofCell_79 : decode cX6_ofCell 79 = .ok (.ireturn, 1) := by decide +kernel
theorem dX6_ofCell_80 : decode cX6_ofCell 80 = .ok (.aload_n 0, 1) := by decide +kernel
theorem dX6_ofCell_81 : decode cX6_ofCell 81 = .ok (.getfield 40, 3) := by decide +kernel
theorem dX6_ofCell_84 : decode cX6_ofCell 84 = .ok (.iload_n 1, 1) := by decide +kernel
theorem dX6_ofCell_85 : decode cX6_ofCell 85 = .ok (.iaload, 1) := by decide +kernel
theorem dX6_ofCell_86 : decode cX6_ofCell 86 = .ok (.ireturn, 1) := by decide +kernel
theorem dX6_ofCell_87 : decode cX6_ofCell 87 = .ok (.aload_n 0, 1) := by decide +kernel
theorem dX6_ofCell_88 : decode cX6_ofCell 88 = .ok (.getfield 7, 3) := by decide +kernel
theorem dX6_ofCell_91 : decode cX6_ofCell 91 = .ok (.sipush 262, 3) := by decide +kernel
theorem dX6_ofCell_94 : decode cX6_ofCell 94 = .ok (.iload_n 1, 1) := by decide +kernel
theorem dX6_ofCell_95 : decode cX6_ofCell 95 = .ok (.iadd, 1) := by decide +kernel
theorem dX6_ofCell_96 : decode cX6_ofCell 96 = .ok (.iaload, 1) := by decide +kernel
theorem dX6_ofCell_97 : decode cX6_ofCell 97 = .ok (.ireturn, 1) := by decide +kernel
theorem dX6_ofCell_98 : decode cX6_ofCell 98 = .ok (.aload_n 0, 1) := by decide +kernel
theorem dX6_ofCell_99 : decode cX6_ofCell 99 = .ok (.getfield 7, 3) := by decide +kernel
theorem dX6_ofCell_102 : decode cX6_ofCell 102 = .ok (.sipush 387, 3) := by decide +kernel
theorem dX6_ofCell_105 : decode cX6_ofCell 105 = .ok (.iload_n 1, 1) := by decide +kernel
theorem dX6_ofCell_106 : decode cX6_ofCell 106 = .ok (.iadd, 1) := by decide +kernel
theorem dX6_ofCell_107 : decode cX6_ofCell 107 = .ok (.iaload, 1) := by decide +kernel
theorem dX6_ofCell_108 : decode cX6_ofCell 108 = .ok (.ireturn, 1) := by decide +kernel
theorem dX6_ofCell_109 : decode cX6_ofCell 109 = .ok (.aload_n 0, 1) := by decide +kernel
theorem dX6_ofCell_110 : decode cX6_ofCell 110 = .ok (.aload_n 0, 1) := by decide +kernel
theorem dX6_ofCell_111 : decode cX6_ofCell 111 = .ok (.getfield 7, 3) := by decide +kernel
theorem dX6_ofCell_114 : decode cX6_ofCell 114 = .ok (.iload_n 1, 1) := by decide +kernel
theorem dX6_ofCell_115 : decode cX6_ofCell 115 = .ok (.invokevirtual 142, 3) := by decide +kernel
theorem dX6_ofCell_118 : decode cX6_ofCell 118 = .ok (.ireturn, 1) := by decide +kernel
theorem dX6_ofCell_119 : decode cX6_ofCell 119 = .ok (.aload_n 0, 1) := by decide +kernel
theorem dX6_ofCell_120 : decode cX6_ofCell 120 = .ok (.aload_n 0, 1) := by decide +kernel
theorem dX6_ofCell_121 : decode cX6_ofCell 121 = .ok (.getfield 7, 3) := by decide +kernel
theorem dX6_ofCell_124 : decode cX6_ofCell 124 = .ok (.iload_n 1, 1) := by decide +kernel
theorem dX6_ofCell_125 : decode cX6_ofCell 125 = .ok (.invokevirtual 145, 3) := by decide +kernel
theorem dX6_ofCell_128 : decode cX6_ofCell 128 = .ok (.ireturn, 1) := by decide +kernel
theorem dX6_ofCell_129 : decode cX6_ofCell 129 = .ok (.aload_n 0, 1) := by decide +kernel
theorem dX6_ofCell_130 : decode cX6_ofCell 130 = .ok (.getfield 7, 3) := by decide +kernel
theorem dX6_ofCell_133 : decode cX6_ofCell 133 = .ok (.bipush 12, 2) := by decide +kernel
theorem dX6_ofCell_135 : decode cX6_ofCell 135 = .ok (.iload_n 1, 1) := by decide +kernel
theorem dX6_ofCell_136 : decode cX6_ofCell 136 = .ok (.iadd, 1) := by decide +kernel
theorem dX6_ofCell_137 : decode cX6_ofCell 137 = .ok (.iaload, 1) := by decide +kernel
theorem dX6_ofCell_138 : decode cX6_ofCell 138 = .ok (.iconst 3, 1) := by decide +kernel
theorem dX6_ofCell_139 : decode cX6_ofCell 139 = .ok (.if_icmp .ne 16, 3) := by decide +kernel
theorem dX6_ofCell_142 : decode cX6_ofCell 142 = .ok (.aload_n 0, 1) := by decide +kernel
theorem dX6_ofCell_143 : decode cX6_ofCell 143 = .ok (.getfield 7, 3) := by decide +kernel
theorem dX6_ofCell_146 : decode cX6_ofCell 146 = .ok (.sipush 137, 3) := by decide +kernel
theorem dX6_ofCell_149 : decode cX6_ofCell 149 = .ok (.iload_n 1, 1) := by decide +kernel
theorem dX6_ofCell_150 : decode cX6_ofCell 150 = .ok (.iadd, 1) := by decide +kernel
theorem dX6_ofCell_151 : decode cX6_ofCell 151 = .ok (.iaload, 1) := by decide +kernel
theorem dX6_ofCell_152 : decode cX6_ofCell 152 = .ok (.goto 4, 3) := by decide +kernel
theorem dX6_ofCell_155 : decode cX6_ofCell 155 = .ok (.iconst (-1), 1) := by decide +kernel
theorem dX6_ofCell_156 : decode cX6_ofCell 156 = .ok (.ireturn, 1) := by decide +kernel
theorem dX6_ofCell_157 : decode cX6_ofCell 157 = .ok (.aload_n 0, 1) := by decide +kernel
theorem dX6_ofCell_158 : decode cX6_ofCell 158 = .ok (.getfield 46, 3) := by decide +kernel
theorem dX6_ofCell_161 : decode cX6_ofCell 161 = .ok (.iconst 4, 1) := by decide +kernel
theorem dX6_ofCell_162 : decode cX6_ofCell 162 = .ok (.iload_n 1, 1) := by decide +kernel
theorem dX6_ofCell_163 : decode cX6_ofCell 163 = .ok (.imul, 1) := by decide +kernel
theorem dX6_ofCell_164 : decode cX6_ofCell 164 = .ok (.iload_n 2, 1) := by decide +kernel
theorem dX6_ofCell_165 : decode cX6_ofCell 165 = .ok (.iadd, 1) := by decide +kernel
theorem dX6_ofCell_166 : decode cX6_ofCell 166 = .ok (.bipush 8, 2) := by decide +kernel
theorem dX6_ofCell_168 : decode cX6_ofCell 168 = .ok (.isub, 1) := by decide +kernel
theorem dX6_ofCell_169 : decode cX6_ofCell 169 = .ok (.iaload, 1) := by decide +kernel
theorem dX6_ofCell_170 : decode cX6_ofCell 170 = .ok (.ireturn, 1) := by decide +kernel
theorem dX6_cell_0 : decode cX6_cell 0 = .ok (.aload_n 0, 1) := by decide +kernel
theorem dX6_cell_1 : decode cX6_cell 1 = .ok (.iconst 0, 1) := by decide +kernel
theorem dX6_cell_2 : decode cX6_cell 2 = .ok (.putfield 62, 3) := by decide +kernel
theorem dX6_cell_5 : decode cX6_cell 5 = .ok (.aload_n 0, 1) := by decide +kernel
theorem dX6_cell_6 : decode cX6_cell 6 = .ok (.iload_n 1, 1) := by decide +kernel
theorem dX6_cell_7 : decode cX6_cell 7 = .ok (.iload_n 2, 1) := by decide +kernel
theorem dX6_cell_8 : decode cX6_cell 8 = .ok (.iload_n 3, 1) := by decide +kernel
theorem dX6_cell_9 : decode cX6_cell 9 = .ok (.invokevirtual 180, 3) := by decide +kernel
theorem dX6_cell_12 : decode cX6_cell 12 = .ok (.ifCond .ne 9, 3) := by decide +kernel
theorem dX6_cell_15 : decode cX6_cell 15 = .ok (.aload_n 0, 1) := by decide +kernel
theorem dX6_cell_16 : decode cX6_cell 16 = .ok (.iconst 1, 1) := by decide +kernel
theorem dX6_cell_17 : decode cX6_cell 17 = .ok (.invokevirtual 88, 3) := by decide +kernel
theorem dX6_cell_20 : decode cX6_cell 20 = .ok (.ireturn, 1) := by decide +kernel
theorem dX6_cell_21 : decode cX6_cell 21 = .ok (.aload_n 0, 1) := by decide +kernel
theorem dX6_cell_22 : decode cX6_cell 22 = .ok (.invokevirtual 236, 3) := by decide +kernel
theorem dX6_cell_25 : decode cX6_cell 25 = .ok (.iload 4, 2) := by decide +kernel
theorem dX6_cell_27 : decode cX6_cell 27 = .ok (.iconst 0, 1) := by decide +kernel
theorem dX6_cell_28 : decode cX6_cell 28 = .ok (.bipush 11, 2) := by decide +kernel
theorem dX6_cell_30 : decode cX6_cell 30 = .ok (.invokestatic 66, 3) := by decide +kernel
theorem dX6_cell_33 : decode cX6_cell 33 = .ok (.ifCond .eq 18, 3) := by decide +kernel
theorem dX6_cell_36 : decode cX6_cell 36 = .ok (.aload_n 0, 1) := by decide +kernel
theorem dX6_cell_37 : decode cX6_cell 37 = .ok (.iload_n 1, 1) := by decide +kernel
theorem dX6_cell_38 : decode cX6_cell 38 = .ok (.iload_n 2, 1) := by decide +kernel
theorem dX6_cell_39 : decode cX6_cell 39 = .ok (.iload_n 3, 1) := by decide +kernel
theorem dX6_cell_40 : decode cX6_cell 40 = .ok (.invokestatic 125, 3) := by decide +kernel
theorem dX6_cell_43 : decode cX6_cell 43 = .ok (.iload 4, 2) := by decide +kernel
theorem dX6_cell_45 : decode cX6_cell 45 = .ok (.invokevirtual 239, 3) := by decide +kernel
theorem dX6_cell_48 : decode cX6_cell 48 = .ok (.goto 8, 3) := by decide +kernel
theorem dX6_cell_51 : decode cX6_cell 51 = .ok (.aload_n 0, 1) := by decide +kernel
theorem dX6_cell_52 : decode cX6_cell 52 = .ok (.iconst 2, 1) := by decide +kernel
theorem dX6_cell_53 : decode cX6_cell 53 = .ok (.invokevirtual 88, 3) := by decide +kernel
theorem dX6_cell_56 : decode cX6_cell 56 = .ok (.ireturn, 1) := by decide +kernel
theorem dX6_edge_0 : decode cX6_edge 0 = .ok (.aload_n 0, 1) := by decide +kernel
theorem dX6_edge_1 : decode cX6_edge 1 = .ok (.iconst 0, 1) := by decide +kernel
theorem dX6_edge_2 : decode cX6_edge 2 = .ok (.putfield 62, 3) := by decide +kernel
theorem dX6_edge_5 : decode cX6_edge 5 = .ok (.aload_n 0, 1) := by decide +kernel
theorem dX6_edge_6 : decode cX6_edge 6 = .ok (.iload_n 1, 1) := by decide +kernel
theorem dX6_edge_7 : decode cX6_edge 7 = .ok (.iload_n 2, 1) := by decide +kernel
theorem dX6_edge_8 : decode cX6_edge 8 = .ok (.iload_n 3, 1) := by decide +kernel
theorem dX6_edge_9 : decode cX6_edge 9 = .ok (.invokevirtual 180, 3) := by decide +kernel
theorem dX6_edge_12 : decode cX6_edge 12 = .ok (.ifCond .ne 9, 3) := by decide +kernel
theorem dX6_edge_15 : decode cX6_edge 15 = .ok (.aload_n 0, 1) := by decide +kernel
theorem dX6_edge_16 : decode cX6_edge 16 = .ok (.iconst 1, 1) := by decide +kernel
theorem dX6_edge_17 : decode cX6_edge 17 = .ok (.invokevirtual 88, 3) := by decide +kernel
theorem dX6_edge_20 : decode cX6_edge 20 = .ok (.ireturn, 1) := by decide +kernel
theorem dX6_edge_21 : decode cX6_edge 21 = .ok (.aload_n 0, 1) := by decide +kernel
theorem dX6_edge_22 : decode cX6_edge 22 = .ok (.invokevirtual 236, 3) := by decide +kernel
theorem dX6_edge_25 : decode cX6_edge 25 = .ok (.iload 4, 2) := by decide +kernel
theorem dX6_edge_27 : decode cX6_edge 27 = .ok (.iconst 0, 1) := by decide +kernel
theorem dX6_edge_28 : decode cX6_edge 28 = .ok (.iconst 3, 1) := by decide +kernel
theorem dX6_edge_29 : decode cX6_edge 29 = .ok (.invokestatic 66, 3) := by decide +kernel
theorem dX6_edge_32 : decode cX6_edge 32 = .ok (.ifCond .eq 22, 3) := by decide +kernel
theorem dX6_edge_35 : decode cX6_edge 35 = .ok (.aload_n 0, 1) := by decide +kernel
theorem dX6_edge_36 : decode cX6_edge 36 = .ok (.aload_n 0, 1) := by decide +kernel
theorem dX6_edge_37 : decode cX6_edge 37 = .ok (.getfield 7, 3) := by decide +kernel
theorem dX6_edge_40 : decode cX6_edge 40 = .ok (.iload_n 1, 1) := by decide +kernel
theorem dX6_edge_41 : decode cX6_edge 41 = .ok (.iload_n 2, 1) := by decide +kernel
theorem dX6_edge_42 : decode cX6_edge 42 = .ok (.iload_n 3, 1) := by decide +kernel
theorem dX6_edge_43 : decode cX6_edge 43 = .ok (.invokestatic 125, 3) := by decide +kernel
theorem dX6_edge_46 : decode cX6_edge 46 = .ok (.iload 4, 2) := by decide +kernel
theorem dX6_edge_48 : decode cX6_edge 48 = .ok (.invokevirtual 133, 3) := by decide +kernel
theorem dX6_edge_51 : decode cX6_edge 51 = .ok (.goto 8, 3) := by decide +kernel
theorem dX6_edge_54 : decode cX6_edge 54 = .ok (.aload_n 0, 1) := by decide +kernel
theorem dX6_edge_55 : decode cX6_edge 55 = .ok (.iconst 2, 1) := by decide +kernel
theorem dX6_edge_56 : decode cX6_edge 56 = .ok (.invokevirtual 88, 3) := by decide +kernel
theorem dX6_edge_59 : decode cX6_edge 59 = .ok (.ireturn, 1) := by decide +kernel
theorem dX6_around_0 : decode cX6_around 0 = .ok (.iconst (-1), 1) := by decide +kernel
theorem dX6_around_1 : decode cX6_around 1 = .ok (.istore_n 2, 1) := by decide +kernel
theorem dX6_around_2 : decode cX6_around 2 = .ok (.iconst 0, 1) := by decide +kernel
theorem dX6_around_3 : decode cX6_around 3 = .ok (.istore_n 3, 1) := by decide +kernel
theorem dX6_around_4 : decode cX6_around 4 = .ok (.iload_n 3, 1) := by decide +kernel
theorem dX6_around_5 : decode cX6_around 5 = .ok (.bipush 125, 2) := by decide +kernel
theorem dX6_around_7 : decode cX6_around 7 = .ok (.if_icmp .ge 44, 3) := by decide +kernel
theorem dX6_around_10 : decode cX6_around 10 = .ok (.aload_n 0, 1) := by decide +kernel
theorem dX6_around_11 : decode cX6_around 11 = .ok (.iload_n 3, 1) := by decide +kernel
theorem dX6_around_12 : decode cX6_around 12 = .ok (.invokestatic 103, 3) := by decide +kernel
theorem dX6_around_15 : decode cX6_around 15 = .ok (.ifCond .eq 28, 3) := by decide +kernel
theorem dX6_around_18 : decode cX6_around 18 = .ok (.aload_n 0, 1) := by decide +kernel
theorem dX6_around_19 : decode cX6_around 19 = .ok (.bipush 12, 2) := by decide +kernel
theorem dX6_around_21 : decode cX6_around 21 = .ok (.iload_n 3, 1) := by decide +kernel
theorem dX6_around_22 : decode cX6_around 22 = .ok (.iadd, 1) := by decide +kernel
theorem dX6_around_23 : decode cX6_around 23 = .ok (.iaload, 1) := by decide +kernel
theorem dX6_around_24 : decode cX6_around 24 = .ok (.iconst 3, 1) := by decide +kernel
theorem dX6_around_25 : decode cX6_around 25 = .ok (.if_icmp .ne 18, 3) := by decide +kernel
theorem dX6_around_28 : decode cX6_around 28 = .ok (.aload_n 0, 1) := by decide +kernel
theorem dX6_around_29 : decode cX6_around 29 = .ok (.sipush 137, 3) := by decide +kernel
theorem dX6_around_32 : decode cX6_around 32 = .ok (.iload_n 3, 1) := by decide +kernel
theorem dX6_around_33 : decode cX6_around 33 = .ok (.iadd, 1) := by decide +kernel
theorem dX6_around_34 : decode cX6_around 34 = .ok (.iaload, 1) := by decide +kernel
theorem dX6_around_35 : decode cX6_around 35 = .ok (.iload_n 1, 1) := by decide +kernel
theorem dX6_around_36 : decode cX6_around 36 = .ok (.if_icmp .ne 7, 3) := by decide +kernel
theorem dX6_around_39 : decode cX6_around 39 = .ok (.iload_n 3, 1) := by decide +kernel
theorem dX6_around_40 : decode cX6_around 40 = .ok (.goto 4, 3) := by decide +kernel
theorem dX6_around_43 : decode cX6_around 43 = .ok (.iload_n 2, 1) := by decide +kernel
theorem dX6_around_44 : decode cX6_around 44 = .ok (.istore_n 2, 1) := by decide +kernel
theorem dX6_around_45 : decode cX6_around 45 = .ok (.iinc 3 1, 3) := by decide +kernel
theorem dX6_around_48 : decode cX6_around 48 = .ok (.goto (-44), 3) := by decide +kernel
theorem dX6_around_51 : decode cX6_around 51 = .ok (.iload_n 2, 1) := by decide +kernel
theorem dX6_around_52 : decode cX6_around 52 = .ok (.ireturn, 1) := by decide +kernel
theorem dX6_ofTable_0 : decode cX6_ofTable 0 = .ok (.iload_n 2, 1) := by decide +kernel
theorem dX6_ofTable_1 : decode cX6_ofTable 1 = .ok (.tableswitch 97 0 6 #[43, 52, 62, 69, 76, 83, 90], 43) := by decide +kernel
theorem dX6_ofTable_44 : decode cX6_ofTable 44 = .ok (.aload_n 0, 1) := by decide +kernel
theorem dX6_ofTable_45 : decode cX6_ofTable 45 = .ok (.getfield 7, 3) := by decide +kernel
theorem dX6_ofTable_48 : decode cX6_ofTable 48 = .ok (.iconst 2, 1) := by decide +kernel
theorem dX6_ofTable_49 : decode cX6_ofTable 49 = .ok (.iload_n 1, 1) := by decide +kernel
theorem dX6_ofTable_50 : decode cX6_ofTable 50 = .ok (.iadd, 1) := by decide +kernel
theorem dX6_ofTable_51 : decode cX6_ofTable 51 = .ok (.iaload, 1) := by decide +kernel
theorem dX6_ofTable_52 : decode cX6_ofTable 52 = .ok (.ireturn, 1) := by decide +kernel
theorem dX6_ofTable_53 : decode cX6_ofTable 53 = .ok (.aload_n 0, 1) := by decide +kernel
theorem dX6_ofTable_54 : decode cX6_ofTable 54 = .ok (.getfield 7, 3) := by decide +kernel
theorem dX6_ofTable_57 : decode cX6_ofTable 57 = .ok (.bipush 7, 2) := by decide +kernel
theorem dX6_ofTable_59 : decode cX6_ofTable 59 = .ok (.iload_n 1, 1) := by decide +kernel
theorem dX6_ofTable_60 : decode cX6_ofTable 60 = .ok (.iadd, 1) := by decide +kernel
theorem dX6_ofTable_61 : decode cX6_ofTable 61 = .ok (.iaload, 1) := by decide +kernel
theorem dX6_ofTable_62 : decode cX6_ofTable 62 = .ok (.ireturn, 1) := by decide +kernel
theorem dX6_ofTable_63 : decode cX6_ofTable 63 = .ok (.aload_n 0, 1) := by decide +kernel
theorem dX6_ofTable_64 : decode cX6_ofTable 64 = .ok (.getfield 25, 3) := by decide +kernel
theorem dX6_ofTable_67 : decode cX6_ofTable 67 = .ok (.iload_n 1, 1) := by decide +kernel
theorem dX6_ofTable_68 : decode cX6_ofTable 68 = .ok (.iaload, 1) := by decide +kernel
theorem dX6_ofTable_69 : decode cX6_ofTable 69 = .ok (.ireturn, 1) := by decide +kernel
theorem dX6_ofTable_70 : decode cX6_ofTable 70 = .ok (.aload_n 0, 1) := by decide +kernel
theorem dX6_ofTable_71 : decode cX6_ofTable 71 = .ok (.getfield 28, 3) := by decide +kernel
theorem dX6_ofTable_74 : decode cX6_ofTable 74 = .ok (.iload_n 1, 1) := by decide +kernel
theorem dX6_ofTable_75 : decode cX6_ofTable 75 = .ok (.iaload, 1) := by decide +kernel
theorem dX6_ofTable_76 : decode cX6_ofTable 76 = .ok (.ireturn, 1) := by decide +kernel
theorem dX6_ofTable_77 : decode cX6_ofTable 77 = .ok (.aload_n 0, 1) := by decide +kernel
theorem dX6_ofTable_78 : decode cX6_ofTable 78 = .ok (.getfield 31, 3) := by decide +kernel
theorem dX6_ofTable_81 : decode cX6_ofTable 81 = .ok (.iload_n 1, 1) := by decide +kernel
theorem dX6_ofTable_82 : decode cX6_ofTable 82 = .ok (.iaload, 1) := by decide +kernel
theorem dX6_ofTable_83 : decode cX6_ofTable 83 = .ok (.ireturn, 1) := by decide +kernel
theorem dX6_ofTable_84 : decode cX6_ofTable 84 = .ok (.aload_n 0, 1) := by decide +kernel
theorem dX6_ofTable_85 : decode cX6_ofTable 85 = .ok (.getfield 34, 3) := by decide +kernel
theorem dX6_ofTable_88 : decode cX6_ofTable 88 = .ok (.iload_n 1, 1) := by decide +kernel
theorem dX6_ofTable_89 : decode cX6_ofTable 89 = .ok (.iaload, 1) := by decide +kernel
theorem dX6_ofTable_90 : decode cX6_ofTable 90 = .ok (.ireturn, 1) := by decide +kernel
theorem dX6_ofTable_91 : decode cX6_ofTable 91 = .ok (.aload_n 0, 1) := by decide +kernel
theorem dX6_ofTable_92 : decode cX6_ofTable 92 = .ok (.getfield 37, 3) := by decide +kernel
theorem dX6_ofTable_95 : decode cX6_ofTable 95 = .ok (.iload_n 1, 1) := by decide +kernel
theorem dX6_ofTable_96 : decode cX6_ofTable 96 = .ok (.iaload, 1) := by decide +kernel
theorem dX6_ofTable_97 : decode cX6_ofTable 97 = .ok (.ireturn, 1) := by decide +kernel
theorem dX6_ofTable_98 : decode cX6_ofTable 98 = .ok (.iload_n 1, 1) := by decide +kernel
theorem dX6_ofTable_99 : decode cX6_ofTable 99 = .ok (.ifCond .ne 7, 3) := by decide +kernel
theorem dX6_ofTable_102 : decode cX6_ofTable 102 = .ok (.iconst (-1), 1) := by decide +kernel
theorem dX6_ofTable_103 : decode cX6_ofTable 103 = .ok (.goto 14, 3) := by decide +kernel
theorem dX6_ofTable_106 : decode cX6_ofTable 106 = .ok (.aload_n 0, 1) := by decide +kernel
theorem dX6_ofTable_107 : decode cX6_ofTable 107 = .ok (.getfield 7, 3) := by decide +kernel
theorem dX6_ofTable_110 : decode cX6_ofTable 110 = .ok (.iload_n 1, 1) := by decide +kernel
theorem dX6_ofTable_111 : decode cX6_ofTable 111 = .ok (.invokestatic 242, 3) := by decide +kernel
theorem dX6_ofTable_114 : decode cX6_ofTable 114 = .ok (.bipush 25, 2) := by decide +kernel
theorem dX6_ofTable_116 : decode cX6_ofTable 116 = .ok (.idiv, 1) := by decide +kernel
theorem dX6_ofTable_117 : decode cX6_ofTable 117 = .ok (.ireturn, 1) := by decide +kernel
theorem dX6_table_0 : decode cX6_table 0 = .ok (.aload_n 0, 1) := by decide +kernel
theorem dX6_table_1 : decode cX6_table 1 = .ok (.iconst 0, 1) := by decide +kernel
theorem dX6_table_2 : decode cX6_table 2 = .ok (.putfield 62, 3) := by decide +kernel
theorem dX6_table_5 : decode cX6_table 5 = .ok (.aload_n 0, 1) := by decide +kernel
theorem dX6_table_6 : decode cX6_table 6 = .ok (.getfield 7, 3) := by decide +kernel
theorem dX6_table_9 : decode cX6_table 9 = .ok (.iload_n 1, 1) := by decide +kernel
theorem dX6_table_10 : decode cX6_table 10 = .ok (.invokestatic 70, 3) := by decide +kernel
theorem dX6_table_13 : decode cX6_table 13 = .ok (.ifCond .ne 9, 3) := by decide +kernel
theorem dX6_table_16 : decode cX6_table 16 = .ok (.aload_n 0, 1) := by decide +kernel
theorem dX6_table_17 : decode cX6_table 17 = .ok (.iconst 1, 1) := by decide +kernel
theorem dX6_table_18 : decode cX6_table 18 = .ok (.invokevirtual 88, 3) := by decide +kernel
theorem dX6_table_21 : decode cX6_table 21 = .ok (.ireturn, 1) := by decide +kernel
theorem dX6_table_22 : decode cX6_table 22 = .ok (.aload_n 0, 1) := by decide +kernel
theorem dX6_table_23 : decode cX6_table 23 = .ok (.invokevirtual 236, 3) := by decide +kernel
theorem dX6_table_26 : decode cX6_table 26 = .ok (.iload_n 2, 1) := by decide +kernel
theorem dX6_table_27 : decode cX6_table 27 = .ok (.iconst 0, 1) := by decide +kernel
theorem dX6_table_28 : decode cX6_table 28 = .ok (.bipush 7, 2) := by decide +kernel
theorem dX6_table_30 : decode cX6_table 30 = .ok (.invokestatic 66, 3) := by decide +kernel
theorem dX6_table_33 : decode cX6_table 33 = .ok (.ifCond .eq 12, 3) := by decide +kernel
theorem dX6_table_36 : decode cX6_table 36 = .ok (.aload_n 0, 1) := by decide +kernel
theorem dX6_table_37 : decode cX6_table 37 = .ok (.iload_n 1, 1) := by decide +kernel
theorem dX6_table_38 : decode cX6_table 38 = .ok (.iload_n 2, 1) := by decide +kernel
theorem dX6_table_39 : decode cX6_table 39 = .ok (.invokevirtual 245, 3) := by decide +kernel
theorem dX6_table_42 : decode cX6_table 42 = .ok (.goto 8, 3) := by decide +kernel
theorem dX6_table_45 : decode cX6_table 45 = .ok (.aload_n 0, 1) := by decide +kernel
theorem dX6_table_46 : decode cX6_table 46 = .ok (.iconst 2, 1) := by decide +kernel
theorem dX6_table_47 : decode cX6_table 47 = .ok (.invokevirtual 88, 3) := by decide +kernel
theorem dX6_table_50 : decode cX6_table 50 = .ok (.ireturn, 1) := by decide +kernel
theorem dX6_size_0 : decode cX6_size 0 = .ok (.aload_n 0, 1) := by decide +kernel
theorem dX6_size_1 : decode cX6_size 1 = .ok (.iconst 0, 1) := by decide +kernel
theorem dX6_size_2 : decode cX6_size 2 = .ok (.putfield 62, 3) := by decide +kernel
theorem dX6_size_5 : decode cX6_size 5 = .ok (.aload_n 0, 1) := by decide +kernel
theorem dX6_size_6 : decode cX6_size 6 = .ok (.getfield 7, 3) := by decide +kernel
theorem dX6_size_9 : decode cX6_size 9 = .ok (.iload_n 1, 1) := by decide +kernel
theorem dX6_size_10 : decode cX6_size 10 = .ok (.invokestatic 70, 3) := by decide +kernel
theorem dX6_size_13 : decode cX6_size 13 = .ok (.ifCond .eq 30, 3) := by decide +kernel
theorem dX6_size_16 : decode cX6_size 16 = .ok (.iload_n 3, 1) := by decide +kernel
theorem dX6_size_17 : decode cX6_size 17 = .ok (.iconst 0, 1) := by decide +kernel
theorem dX6_size_18 : decode cX6_size 18 = .ok (.aload_n 0, 1) := by decide +kernel
theorem dX6_size_19 : decode cX6_size 19 = .ok (.getfield 7, 3) := by decide +kernel
theorem dX6_size_22 : decode cX6_size 22 = .ok (.iload_n 2, 1) := by decide +kernel
theorem dX6_size_23 : decode cX6_size 23 = .ok (.ifCond .eq 7, 3) := by decide +kernel
theorem dX6_size_26 : decode cX6_size 26 = .ok (.iconst 2, 1) := by decide +kernel
theorem dX6_size_27 : decode cX6_size 27 = .ok (.goto 5, 3) := by decide +kernel
theorem dX6_size_30 : decode cX6_size 30 = .ok (.bipush 7, 2) := by decide +kernel
theorem dX6_size_32 : decode cX6_size 32 = .ok (.iload_n 1, 1) := by decide +kernel
theorem dX6_size_33 : decode cX6_size 33 = .ok (.iadd, 1) := by decide +kernel
theorem dX6_size_34 : decode cX6_size 34 = .ok (.iaload, 1) := by decide +kernel
theorem dX6_size_35 : decode cX6_size 35 = .ok (.iconst 1, 1) := by decide +kernel
theorem dX6_size_36 : decode cX6_size 36 = .ok (.isub, 1) := by decide +kernel
theorem dX6_size_37 : decode cX6_size 37 = .ok (.invokestatic 66, 3) := by decide +kernel
theorem dX6_size_40 : decode cX6_size 40 = .ok (.ifCond .ne 9, 3) := by decide +kernel
theorem dX6_size_43 : decode cX6_size 43 = .ok (.aload_n 0, 1) := by decide +kernel
theorem dX6_size_44 : decode cX6_size 44 = .ok (.iconst 1, 1) := by decide +kernel
theorem dX6_size_45 : decode cX6_size 45 = .ok (.invokevirtual 88, 3) := by decide +kernel
theorem dX6_size_48 : decode cX6_size 48 = .ok (.ireturn, 1) := by decide +kernel
theorem dX6_size_49 : decode cX6_size 49 = .ok (.aload_n 0, 1) := by decide +kernel
theorem dX6_size_50 : decode cX6_size 50 = .ok (.invokevirtual 236, 3) := by decide +kernel
theorem dX6_size_53 : decode cX6_size 53 = .ok (.iload_n 2, 1) := by decide +kernel
theorem dX6_size_54 : decode cX6_size 54 = .ok (.ifCond .eq 16, 3) := by decide +kernel
theorem dX6_size_57 : decode cX6_size 57 = .ok (.aload_n 0, 1) := by decide +kernel
theorem dX6_size_58 : decode cX6_size 58 = .ok (.getfield 52, 3) := by decide +kernel
theorem dX6_size_61 : decode cX6_size 61 = .ok (.iconst 5, 1) := by decide +kernel
theorem dX6_size_62 : decode cX6_size 62 = .ok (.iload_n 1, 1) := by decide +kernel
theorem dX6_size_63 : decode cX6_size 63 = .ok (.imul, 1) := by decide +kernel
theorem dX6_size_64 : decode cX6_size 64 = .ok (.iload_n 3, 1) := by decide +kernel
theorem dX6_size_65 : decode cX6_size 65 = .ok (.iadd, 1) := by decide +kernel
theorem dX6_size_66 : decode cX6_size 66 = .ok (.iaload, 1) := by decide +kernel
theorem dX6_size_67 : decode cX6_size 67 = .ok (.goto 13, 3) := by decide +kernel
theorem dX6_size_70 : decode cX6_size 70 = .ok (.aload_n 0, 1) := by decide +kernel
theorem dX6_size_71 : decode cX6_size 71 = .ok (.getfield 49, 3) := by decide +kernel
theorem dX6_size_74 : decode cX6_size 74 = .ok (.iconst 5, 1) := by decide +kernel
theorem dX6_size_75 : decode cX6_size 75 = .ok (.iload_n 1, 1) := by decide +kernel
theorem dX6_size_76 : decode cX6_size 76 = .ok (.imul, 1) := by decide +kernel
theorem dX6_size_77 : decode cX6_size 77 = .ok (.iload_n 3, 1) := by decide +kernel
theorem dX6_size_78 : decode cX6_size 78 = .ok (.iadd, 1) := by decide +kernel
theorem dX6_size_79 : decode cX6_size 79 = .ok (.iaload, 1) := by decide +kernel
theorem dX6_size_80 : decode cX6_size 80 = .ok (.ireturn, 1) := by decide +kernel
theorem dX6_page_0 : decode cX6_page 0 = .ok (.aload_n 0, 1) := by decide +kernel
theorem dX6_page_1 : decode cX6_page 1 = .ok (.iconst 0, 1) := by decide +kernel
theorem dX6_page_2 : decode cX6_page 2 = .ok (.putfield 62, 3) := by decide +kernel
theorem dX6_page_5 : decode cX6_page 5 = .ok (.iload_n 1, 1) := by decide +kernel
theorem dX6_page_6 : decode cX6_page 6 = .ok (.iconst 0, 1) := by decide +kernel
theorem dX6_page_7 : decode cX6_page 7 = .ok (.aload_n 0, 1) := by decide +kernel
theorem dX6_page_8 : decode cX6_page 8 = .ok (.getfield 7, 3) := by decide +kernel
theorem dX6_page_11 : decode cX6_page 11 = .ok (.iconst 2, 1) := by decide +kernel
theorem dX6_page_12 : decode cX6_page 12 = .ok (.iaload, 1) := by decide +kernel
theorem dX6_page_13 : decode cX6_page 13 = .ok (.iconst 1, 1) := by decide +kernel
theorem dX6_page_14 : decode cX6_page 14 = .ok (.isub, 1) := by decide +kernel
theorem dX6_page_15 : decode cX6_page 15 = .ok (.invokestatic 66, 3) := by decide +kernel
theorem dX6_page_18 : decode cX6_page 18 = .ok (.ifCond .ne 9, 3) := by decide +kernel
theorem dX6_page_21 : decode cX6_page 21 = .ok (.aload_n 0, 1) := by decide +kernel
theorem dX6_page_22 : decode cX6_page 22 = .ok (.iconst 1, 1) := by decide +kernel
theorem dX6_page_23 : decode cX6_page 23 = .ok (.invokevirtual 88, 3) := by decide +kernel
theorem dX6_page_26 : decode cX6_page 26 = .ok (.ireturn, 1) := by decide +kernel
theorem dX6_page_27 : decode cX6_page 27 = .ok (.aload_n 0, 1) := by decide +kernel
theorem dX6_page_28 : decode cX6_page 28 = .ok (.invokevirtual 236, 3) := by decide +kernel
theorem dX6_page_31 : decode cX6_page 31 = .ok (.aload_n 0, 1) := by decide +kernel
theorem dX6_page_32 : decode cX6_page 32 = .ok (.aload_n 0, 1) := by decide +kernel
theorem dX6_page_33 : decode cX6_page 33 = .ok (.getfield 7, 3) := by decide +kernel
theorem dX6_page_36 : decode cX6_page 36 = .ok (.aload_n 0, 1) := by decide +kernel
theorem dX6_page_37 : decode cX6_page 37 = .ok (.getfield 7, 3) := by decide +kernel
theorem dX6_page_40 : decode cX6_page 40 = .ok (.iconst 1, 1) := by decide +kernel
theorem dX6_page_41 : decode cX6_page 41 = .ok (.iaload, 1) := by decide +kernel
theorem dX6_page_42 : decode cX6_page 42 = .ok (.invokevirtual 248, 3) := by decide +kernel
theorem dX6_page_45 : decode cX6_page 45 = .ok (.pop, 1) := by decide +kernel
theorem dX6_page_46 : decode cX6_page 46 = .ok (.aload_n 0, 1) := by decide +kernel
theorem dX6_page_47 : decode cX6_page 47 = .ok (.getfield 55, 3) := by decide +kernel
theorem dX6_page_50 : decode cX6_page 50 = .ok (.iload_n 1, 1) := by decide +kernel
theorem dX6_page_51 : decode cX6_page 51 = .ok (.iaload, 1) := by decide +kernel
theorem dX6_page_52 : decode cX6_page 52 = .ok (.ireturn, 1) := by decide +kernel
theorem dX6_cells_0 : decode cX6_cells 0 = .ok (.iconst 0, 1) := by decide +kernel
theorem dX6_cells_1 : decode cX6_cells 1 = .ok (.istore_n 2, 1) := by decide +kernel
theorem dX6_cells_2 : decode cX6_cells 2 = .ok (.iconst 0, 1) := by decide +kernel
theorem dX6_cells_3 : decode cX6_cells 3 = .ok (.istore_n 3, 1) := by decide +kernel
theorem dX6_cells_4 : decode cX6_cells 4 = .ok (.iload_n 3, 1) := by decide +kernel
theorem dX6_cells_5 : decode cX6_cells 5 = .ok (.bipush 125, 2) := by decide +kernel
theorem dX6_cells_7 : decode cX6_cells 7 = .ok (.if_icmp .ge 46, 3) := by decide +kernel
theorem dX6_cells_10 : decode cX6_cells 10 = .ok (.iload_n 2, 1) := by decide +kernel
theorem dX6_cells_11 : decode cX6_cells 11 = .ok (.aload_n 0, 1) := by decide +kernel
theorem dX6_cells_12 : decode cX6_cells 12 = .ok (.getfield 7, 3) := by decide +kernel
theorem dX6_cells_15 : decode cX6_cells 15 = .ok (.iload_n 3, 1) := by decide +kernel
theorem dX6_cells_16 : decode cX6_cells 16 = .ok (.invokestatic 103, 3) := by decide +kernel
theorem dX6_cells_19 : decode cX6_cells 19 = .ok (.ifCond .eq 25, 3) := by decide +kernel
theorem dX6_cells_22 : decode cX6_cells 22 = .ok (.iload_n 1, 1) := by decide +kernel
theorem dX6_cells_23 : decode cX6_cells 23 = .ok (.iconst (-1), 1) := by decide +kernel
theorem dX6_cells_24 : decode cX6_cells 24 = .ok (.if_icmp .eq 16, 3) := by decide +kernel
theorem dX6_cells_27 : decode cX6_cells 27 = .ok (.aload_n 0, 1) := by decide +kernel
theorem dX6_cells_28 : decode cX6_cells 28 = .ok (.getfield 7, 3) := by decide +kernel
theorem dX6_cells_31 : decode cX6_cells 31 = .ok (.bipush 12, 2) := by decide +kernel
theorem dX6_cells_33 : decode cX6_cells 33 = .ok (.iload_n 3, 1) := by decide +kernel
theorem dX6_cells_34 : decode cX6_cells 34 = .ok (.iadd, 1) := by decide +kernel
theorem dX6_cells_35 : decode cX6_cells 35 = .ok (.iaload, 1) := by decide +kernel
theorem dX6_cells_36 : decode cX6_cells 36 = .ok (.iload_n 1, 1) := by decide +kernel
theorem dX6_cells_37 : decode cX6_cells 37 = .ok (.if_icmp .ne 7, 3) := by decide +kernel
theorem dX6_cells_40 : decode cX6_cells 40 = .ok (.iconst 1, 1) := by decide +kernel
theorem dX6_cells_41 : decode cX6_cells 41 = .ok (.goto 4, 3) := by decide +kernel
theorem dX6_cells_44 : decode cX6_cells 44 = .ok (.iconst 0, 1) := by decide +kernel
theorem dX6_cells_45 : decode cX6_cells 45 = .ok (.iadd, 1) := by decide +kernel
theorem dX6_cells_46 : decode cX6_cells 46 = .ok (.istore_n 2, 1) := by decide +kernel
theorem dX6_cells_47 : decode cX6_cells 47 = .ok (.iinc 3 1, 3) := by decide +kernel
theorem dX6_cells_50 : decode cX6_cells 50 = .ok (.goto (-46), 3) := by decide +kernel
theorem dX6_cells_53 : decode cX6_cells 53 = .ok (.iload_n 2, 1) := by decide +kernel
theorem dX6_cells_54 : decode cX6_cells 54 = .ok (.ireturn, 1) := by decide +kernel
theorem dX6_squares_0 : decode cX6_squares 0 = .ok (.iconst 0, 1) := by decide +kernel
theorem dX6_squares_1 : decode cX6_squares 1 = .ok (.istore_n 1, 1) := by decide +kernel
theorem dX6_squares_2 : decode cX6_squares 2 = .ok (.iconst 0, 1) := by decide +kernel
theorem dX6_squares_3 : decode cX6_squares 3 = .ok (.istore_n 2, 1) := by decide +kernel
theorem dX6_squares_4 : decode cX6_squares 4 = .ok (.iload_n 2, 1) := by decide +kernel
theorem dX6_squares_5 : decode cX6_squares 5 = .ok (.bipush 125, 2) := by decide +kernel
theorem dX6_squares_7 : decode cX6_squares 7 = .ok (.if_icmp .ge 28, 3) := by decide +kernel
theorem dX6_squares_10 : decode cX6_squares 10 = .ok (.iload_n 1, 1) := by decide +kernel
theorem dX6_squares_11 : decode cX6_squares 11 = .ok (.aload_n 0, 1) := by decide +kernel
theorem dX6_squares_12 : decode cX6_squares 12 = .ok (.getfield 7, 3) := by decide +kernel
theorem dX6_squares_15 : decode cX6_squares 15 = .ok (.iload_n 2, 1) := by decide +kernel
theorem dX6_squares_16 : decode cX6_squares 16 = .ok (.invokestatic 74, 3) := by decide +kernel
theorem dX6_squares_19 : decode cX6_squares 19 = .ok (.ifCond .eq 7, 3) := by decide +kernel
theorem dX6_squares_22 : decode cX6_squares 22 = .ok (.iconst 1, 1) := by decide +kernel
theorem dX6_squares_23 : decode cX6_squares 23 = .ok (.goto 4, 3) := by decide +kernel
theorem dX6_squares_26 : decode cX6_squares 26 = .ok (.iconst 0, 1) := by decide +kernel
theorem dX6_squares_27 : decode cX6_squares 27 = .ok (.iadd, 1) := by decide +kernel
theorem dX6_squares_28 : decode cX6_squares 28 = .ok (.istore_n 1, 1) := by decide +kernel
theorem dX6_squares_29 : decode cX6_squares 29 = .ok (.iinc 2 1, 3) := by decide +kernel
theorem dX6_squares_32 : decode cX6_squares 32 = .ok (.goto (-28), 3) := by decide +kernel
theorem dX6_squares_35 : decode cX6_squares 35 = .ok (.iload_n 1, 1) := by decide +kernel
theorem dX6_squares_36 : decode cX6_squares 36 = .ok (.ireturn, 1) := by decide +kernel
theorem dX6_edges_0 : decode cX6_edges 0 = .ok (.iconst 0, 1) := by decide +kernel
theorem dX6_edges_1 : decode cX6_edges 1 = .ok (.istore_n 1, 1) := by decide +kernel
theorem dX6_edges_2 : decode cX6_edges 2 = .ok (.iconst 0, 1) := by decide +kernel
theorem dX6_edges_3 : decode cX6_edges 3 = .ok (.istore_n 2, 1) := by decide +kernel
theorem dX6_edges_4 : decode cX6_edges 4 = .ok (.iload_n 2, 1) := by decide +kernel
theorem dX6_edges_5 : decode cX6_edges 5 = .ok (.sipush 500, 3) := by decide +kernel
theorem dX6_edges_8 : decode cX6_edges 8 = .ok (.if_icmp .ge 88, 3) := by decide +kernel
theorem dX6_edges_11 : decode cX6_edges 11 = .ok (.iload_n 2, 1) := by decide +kernel
theorem dX6_edges_12 : decode cX6_edges 12 = .ok (.iconst 4, 1) := by decide +kernel
theorem dX6_edges_13 : decode cX6_edges 13 = .ok (.idiv, 1) := by decide +kernel
theorem dX6_edges_14 : decode cX6_edges 14 = .ok (.istore_n 3, 1) := by decide +kernel
theorem dX6_edges_15 : decode cX6_edges 15 = .ok (.aload_n 0, 1) := by decide +kernel
theorem dX6_edges_16 : decode cX6_edges 16 = .ok (.getfield 7, 3) := by decide +kernel
theorem dX6_edges_19 : decode cX6_edges 19 = .ok (.iload_n 3, 1) := by decide +kernel
theorem dX6_edges_20 : decode cX6_edges 20 = .ok (.invokestatic 74, 3) := by decide +kernel
theorem dX6_edges_23 : decode cX6_edges 23 = .ok (.ifCond .eq 36, 3) := by decide +kernel
theorem dX6_edges_26 : decode cX6_edges 26 = .ok (.iload_n 2, 1) := by decide +kernel
theorem dX6_edges_27 : decode cX6_edges 27 = .ok (.iconst 4, 1) := by decide +kernel
theorem dX6_edges_28 : decode cX6_edges 28 = .ok (.irem, 1) := by decide +kernel
theorem dX6_edges_29 : decode cX6_edges 29 = .ok (.iconst 1, 1) := by decide +kernel
theorem dX6_edges_30 : decode cX6_edges 30 = .ok (.if_icmp .eq 25, 3) := by decide +kernel
theorem dX6_edges_33 : decode cX6_edges 33 = .ok (.iload_n 2, 1) := by decide +kernel
theorem dX6_edges_34 : decode cX6_edges 34 = .ok (.iconst 4, 1) := by decide +kernel
theorem dX6_edges_35 : decode cX6_edges 35 = .ok (.irem, 1) := by decide +kernel
theorem dX6_edges_36 : decode cX6_edges 36 = .ok (.iconst 2, 1) := by decide +kernel
theorem dX6_edges_37 : decode cX6_edges 37 = .ok (.if_icmp .eq 18, 3) := by decide +kernel
theorem dX6_edges_40 : decode cX6_edges 40 = .ok (.aload_n 0, 1) := by decide +kernel
theorem dX6_edges_41 : decode cX6_edges 41 = .ok (.getfield 7, 3) := by decide +kernel
theorem dX6_edges_44 : decode cX6_edges 44 = .ok (.iload_n 3, 1) := by decide +kernel
theorem dX6_edges_45 : decode cX6_edges 45 = .ok (.iload_n 2, 1) := by decide +kernel
theorem dX6_edges_46 : decode cX6_edges 46 = .ok (.iconst 4, 1) := by decide +kernel
theorem dX6_edges_47 : decode cX6_edges 47 = .ok (.irem, 1) := by decide +kernel
theorem dX6_edges_48 : decode cX6_edges 48 = .ok (.invokestatic 129, 3) := by decide +kernel
theorem dX6_edges_51 : decode cX6_edges 51 = .ok (.iconst (-1), 1) := by decide +kernel
theorem dX6_edges_52 : decode cX6_edges 52 = .ok (.if_icmp .ne 7, 3) := by decide +kernel
theorem dX6_edges_55 : decode cX6_edges 55 = .ok (.iconst 1, 1) := by decide +kernel
theorem dX6_edges_56 : decode cX6_edges 56 = .ok (.goto 4, 3) := by decide +kernel
theorem dX6_edges_59 : decode cX6_edges 59 = .ok (.iconst 0, 1) := by decide +kernel
theorem dX6_edges_60 : decode cX6_edges 60 = .ok (.istore 4, 2) := by decide +kernel
theorem dX6_edges_62 : decode cX6_edges 62 = .ok (.iload_n 1, 1) := by decide +kernel
theorem dX6_edges_63 : decode cX6_edges 63 = .ok (.iload 4, 2) := by decide +kernel
theorem dX6_edges_65 : decode cX6_edges 65 = .ok (.ifCond .eq 22, 3) := by decide +kernel
theorem dX6_edges_68 : decode cX6_edges 68 = .ok (.aload_n 0, 1) := by decide +kernel
theorem dX6_edges_69 : decode cX6_edges 69 = .ok (.aload_n 0, 1) := by decide +kernel
theorem dX6_edges_70 : decode cX6_edges 70 = .ok (.getfield 7, 3) := by decide +kernel
theorem dX6_edges_73 : decode cX6_edges 73 = .ok (.iload_n 3, 1) := by decide +kernel
theorem dX6_edges_74 : decode cX6_edges 74 = .ok (.iload_n 2, 1) := by decide +kernel
theorem dX6_edges_75 : decode cX6_edges 75 = .ok (.iconst 4, 1) := by decide +kernel
theorem dX6_edges_76 : decode cX6_edges 76 = .ok (.irem, 1) := by decide +kernel
theorem dX6_edges_77 : decode cX6_edges 77 = .ok (.invokevirtual 133, 3) := by decide +kernel
theorem dX6_edges_80 : decode cX6_edges 80 = .ok (.ifCond .le 7, 3) := by decide +kernel
theorem dX6_edges_83 : decode cX6_edges 83 = .ok (.iconst 1, 1) := by decide +kernel
theorem dX6_edges_84 : decode cX6_edges 84 = .ok (.goto 4, 3) := by decide +kernel
theorem dX6_edges_87 : decode cX6_edges 87 = .ok (.iconst 0, 1) := by decide +kernel
theorem dX6_edges_88 : decode cX6_edges 88 = .ok (.iadd, 1) := by decide +kernel
theorem dX6_edges_89 : decode cX6_edges 89 = .ok (.istore_n 1, 1) := by decide +kernel
theorem dX6_edges_90 : decode cX6_edges 90 = .ok (.iinc 2 1, 3) := by decide +kernel
theorem dX6_edges_93 : decode cX6_edges 93 = .ok (.goto (-89), 3) := by decide +kernel
theorem dX6_edges_96 : decode cX6_edges 96 = .ok (.iload_n 1, 1) := by decide +kernel
theorem dX6_edges_97 : decode cX6_edges 97 = .ok (.ireturn, 1) := by decide +kernel
theorem dX6_counted_0 : decode cX6_counted 0 = .ok (.iload_n 1, 1) := by decide +kernel
theorem dX6_counted_1 : decode cX6_counted 1 = .ok (.bipush 9, 2) := by decide +kernel
theorem dX6_counted_3 : decode cX6_counted 3 = .ok (.if_icmp .ge 33, 3) := by decide +kernel
theorem dX6_counted_6 : decode cX6_counted 6 = .ok (.iload_n 1, 1) := by decide +kernel
theorem dX6_counted_7 : decode cX6_counted 7 = .ok (.ifCond .ne 12, 3) := by decide +kernel
theorem dX6_counted_10 : decode cX6_counted 10 = .ok (.aload_n 0, 1) := by decide +kernel
theorem dX6_counted_11 : decode cX6_counted 11 = .ok (.getfield 7, 3) := by decide +kernel
theorem dX6_counted_14 : decode cX6_counted 14 = .ok (.iconst 0, 1) := by decide +kernel
theorem dX6_counted_15 : decode cX6_counted 15 = .ok (.iaload, 1) := by decide +kernel
theorem dX6_counted_16 : decode cX6_counted 16 = .ok (.goto 19, 3) := by decide +kernel
theorem dX6_counted_19 : decode cX6_counted 19 = .ok (.aload_n 0, 1) := by decide +kernel
theorem dX6_counted_20 : decode cX6_counted 20 = .ok (.iload_n 1, 1) := by decide +kernel
theorem dX6_counted_21 : decode cX6_counted 21 = .ok (.iconst 1, 1) := by decide +kernel
theorem dX6_counted_22 : decode cX6_counted 22 = .ok (.if_icmp .ne 7, 3) := by decide +kernel
theorem dX6_counted_25 : decode cX6_counted 25 = .ok (.iconst (-1), 1) := by decide +kernel
theorem dX6_counted_26 : decode cX6_counted 26 = .ok (.goto 6, 3) := by decide +kernel
theorem dX6_counted_29 : decode cX6_counted 29 = .ok (.iload_n 1, 1) := by decide +kernel
theorem dX6_counted_30 : decode cX6_counted 30 = .ok (.iconst 2, 1) := by decide +kernel
theorem dX6_counted_31 : decode cX6_counted 31 = .ok (.isub, 1) := by decide +kernel
theorem dX6_counted_32 : decode cX6_counted 32 = .ok (.invokevirtual 251, 3) := by decide +kernel
theorem dX6_counted_35 : decode cX6_counted 35 = .ok (.ireturn, 1) := by decide +kernel
theorem dX6_counted_36 : decode cX6_counted 36 = .ok (.iload_n 1, 1) := by decide +kernel
theorem dX6_counted_37 : decode cX6_counted 37 = .ok (.bipush 9, 2) := by decide +kernel
theorem dX6_counted_39 : decode cX6_counted 39 = .ok (.if_icmp .ne 20, 3) := by decide +kernel
theorem dX6_counted_42 : decode cX6_counted 42 = .ok (.aload_n 0, 1) := by decide +kernel
theorem dX6_counted_43 : decode cX6_counted 43 = .ok (.aload_n 0, 1) := by decide +kernel
theorem dX6_counted_44 : decode cX6_counted 44 = .ok (.getfield 7, 3) := by decide +kernel
theorem dX6_counted_47 : decode cX6_counted 47 = .ok (.aload_n 0, 1) := by decide +kernel
theorem dX6_counted_48 : decode cX6_counted 48 = .ok (.getfield 7, 3) := by decide +kernel
theorem dX6_counted_51 : decode cX6_counted 51 = .ok (.iconst 1, 1) := by decide +kernel
theorem dX6_counted_52 : decode cX6_counted 52 = .ok (.iaload, 1) := by decide +kernel
theorem dX6_counted_53 : decode cX6_counted 53 = .ok (.invokevirtual 248, 3) := by decide +kernel
theorem dX6_counted_56 : decode cX6_counted 56 = .ok (.goto 39, 3) := by decide +kernel
theorem dX6_counted_59 : decode cX6_counted 59 = .ok (.iload_n 1, 1) := by decide +kernel
theorem dX6_counted_60 : decode cX6_counted 60 = .ok (.bipush 10, 2) := by decide +kernel
theorem dX6_counted_62 : decode cX6_counted 62 = .ok (.if_icmp .ne 10, 3) := by decide +kernel
theorem dX6_counted_65 : decode cX6_counted 65 = .ok (.aload_n 0, 1) := by decide +kernel
theorem dX6_counted_66 : decode cX6_counted 66 = .ok (.invokevirtual 254, 3) := by decide +kernel
theorem dX6_counted_69 : decode cX6_counted 69 = .ok (.goto 26, 3) := by decide +kernel
theorem dX6_counted_72 : decode cX6_counted 72 = .ok (.iload_n 1, 1) := by decide +kernel
theorem dX6_counted_73 : decode cX6_counted 73 = .ok (.bipush 11, 2) := by decide +kernel
theorem dX6_counted_75 : decode cX6_counted 75 = .ok (.if_icmp .ne 16, 3) := by decide +kernel
theorem dX6_counted_78 : decode cX6_counted 78 = .ok (.aload_n 0, 1) := by decide +kernel
theorem dX6_counted_79 : decode cX6_counted 79 = .ok (.invokevirtual 258, 3) := by decide +kernel
theorem dX6_counted_82 : decode cX6_counted 82 = .ok (.aload_n 0, 1) := by decide +kernel
theorem dX6_counted_83 : decode cX6_counted 83 = .ok (.iconst (-1), 1) := by decide +kernel
theorem dX6_counted_84 : decode cX6_counted 84 = .ok (.invokevirtual 251, 3) := by decide +kernel
theorem dX6_counted_87 : decode cX6_counted 87 = .ok (.isub, 1) := by decide +kernel
theorem dX6_counted_88 : decode cX6_counted 88 = .ok (.goto 7, 3) := by decide +kernel
theorem dX6_counted_91 : decode cX6_counted 91 = .ok (.aload_n 0, 1) := by decide +kernel
theorem dX6_counted_92 : decode cX6_counted 92 = .ok (.getfield 81, 3) := by decide +kernel
theorem dX6_counted_95 : decode cX6_counted 95 = .ok (.ireturn, 1) := by decide +kernel
theorem dX6_count_0 : decode cX6_count 0 = .ok (.aload_n 0, 1) := by decide +kernel
theorem dX6_count_1 : decode cX6_count 1 = .ok (.iconst 0, 1) := by decide +kernel
theorem dX6_count_2 : decode cX6_count 2 = .ok (.putfield 62, 3) := by decide +kernel
theorem dX6_count_5 : decode cX6_count 5 = .ok (.iload_n 1, 1) := by decide +kernel
theorem dX6_count_6 : decode cX6_count 6 = .ok (.iconst 0, 1) := by decide +kernel
theorem dX6_count_7 : decode cX6_count 7 = .ok (.bipush 12, 2) := by decide +kernel
theorem dX6_count_9 : decode cX6_count 9 = .ok (.invokestatic 66, 3) := by decide +kernel
theorem dX6_count_12 : decode cX6_count 12 = .ok (.ifCond .ne 9, 3) := by decide +kernel
theorem dX6_count_15 : decode cX6_count 15 = .ok (.aload_n 0, 1) := by decide +kernel
theorem dX6_count_16 : decode cX6_count 16 = .ok (.iconst 1, 1) := by decide +kernel
theorem dX6_count_17 : decode cX6_count 17 = .ok (.invokevirtual 88, 3) := by decide +kernel
theorem dX6_count_20 : decode cX6_count 20 = .ok (.ireturn, 1) := by decide +kernel
theorem dX6_count_21 : decode cX6_count 21 = .ok (.aload_n 0, 1) := by decide +kernel
theorem dX6_count_22 : decode cX6_count 22 = .ok (.invokevirtual 236, 3) := by decide +kernel
theorem dX6_count_25 : decode cX6_count 25 = .ok (.aload_n 0, 1) := by decide +kernel
theorem dX6_count_26 : decode cX6_count 26 = .ok (.iload_n 1, 1) := by decide +kernel
theorem dX6_count_27 : decode cX6_count 27 = .ok (.invokevirtual 261, 3) := by decide +kernel
theorem dX6_count_30 : decode cX6_count 30 = .ok (.ireturn, 1) := by decide +kernel
theorem dX6_byPutting_0 : decode cX6_byPutting 0 = .ok (.aload_n 0, 1) := by decide +kernel
theorem dX6_byPutting_1 : decode cX6_byPutting 1 = .ok (.getfield 7, 3) := by decide +kernel
theorem dX6_byPutting_4 : decode cX6_byPutting 4 = .ok (.iload_n 1, 1) := by decide +kernel
theorem dX6_byPutting_5 : decode cX6_byPutting 5 = .ok (.invokestatic 103, 3) := by decide +kernel
theorem dX6_byPutting_8 : decode cX6_byPutting 8 = .ok (.ifCond .eq 16, 3) := by decide +kernel
theorem dX6_byPutting_11 : decode cX6_byPutting 11 = .ok (.aload_n 0, 1) := by decide +kernel
theorem dX6_byPutting_12 : decode cX6_byPutting 12 = .ok (.getfield 7, 3) := by decide +kernel
theorem dX6_byPutting_15 : decode cX6_byPutting 15 = .ok (.bipush 12, 2) := by decide +kernel
theorem dX6_byPutting_17 : decode cX6_byPutting 17 = .ok (.iload_n 1, 1) := by decide +kernel
theorem dX6_byPutting_18 : decode cX6_byPutting 18 = .ok (.iadd, 1) := by decide +kernel
theorem dX6_byPutting_19 : decode cX6_byPutting 19 = .ok (.iaload, 1) := by decide +kernel
theorem dX6_byPutting_20 : decode cX6_byPutting 20 = .ok (.iconst 3, 1) := by decide +kernel
theorem dX6_byPutting_21 : decode cX6_byPutting 21 = .ok (.if_icmp .ne 5, 3) := by decide +kernel
theorem dX6_byPutting_24 : decode cX6_byPutting 24 = .ok (.iconst (-1), 1) := by decide +kernel
theorem dX6_byPutting_25 : decode cX6_byPutting 25 = .ok (.ireturn, 1) := by decide +kernel
theorem dX6_byPutting_26 : decode cX6_byPutting 26 = .ok (.aload_n 0, 1) := by decide +kernel
theorem dX6_byPutting_27 : decode cX6_byPutting 27 = .ok (.invokevirtual 236, 3) := by decide +kernel
theorem dX6_byPutting_30 : decode cX6_byPutting 30 = .ok (.iconst 0, 1) := by decide +kernel
theorem dX6_byPutting_31 : decode cX6_byPutting 31 = .ok (.istore 4, 2) := by decide +kernel
theorem dX6_byPutting_33 : decode cX6_byPutting 33 = .ok (.iload 4, 2) := by decide +kernel
theorem dX6_byPutting_35 : decode cX6_byPutting 35 = .ok (.bipush 125, 2) := by decide +kernel
theorem dX6_byPutting_37 : decode cX6_byPutting 37 = .ok (.if_icmp .ge 39, 3) := by decide +kernel
theorem dX6_byPutting_40 : decode cX6_byPutting 40 = .ok (.aload_n 0, 1) := by decide +kernel
theorem dX6_byPutting_41 : decode cX6_byPutting 41 = .ok (.getfield 43, 3) := by decide +kernel
theorem dX6_byPutting_44 : decode cX6_byPutting 44 = .ok (.iload 4, 2) := by decide +kernel
theorem dX6_byPutting_46 : decode cX6_byPutting 46 = .ok (.aload_n 0, 1) := by decide +kernel
theorem dX6_byPutting_47 : decode cX6_byPutting 47 = .ok (.getfield 7, 3) := by decide +kernel
theorem dX6_byPutting_50 : decode cX6_byPutting 50 = .ok (.iload 4, 2) := by decide +kernel
theorem dX6_byPutting_52 : decode cX6_byPutting 52 = .ok (.invokestatic 103, 3) := by decide +kernel
theorem dX6_byPutting_55 : decode cX6_byPutting 55 = .ok (.ifCond .eq 13, 3) := by decide +kernel
theorem dX6_byPutting_58 : decode cX6_byPutting 58 = .ok (.aload_n 0, 1) := by decide +kernel
theorem dX6_byPutting_59 : decode cX6_byPutting 59 = .ok (.getfield 40, 3) := by decide +kernel
theorem dX6_byPutting_62 : decode cX6_byPutting 62 = .ok (.iload 4, 2) := by decide +kernel
theorem dX6_byPutting_64 : decode cX6_byPutting 64 = .ok (.iaload, 1) := by decide +kernel
theorem dX6_byPutting_65 : decode cX6_byPutting 65 = .ok (.goto 4, 3) := by decide +kernel
theorem dX6_byPutting_68 : decode cX6_byPutting 68 = .ok (.iconst 0, 1) := by decide +kernel
theorem dX6_byPutting_69 : decode cX6_byPutting 69 = .ok (.iastore, 1) := by decide +kernel
theorem dX6_byPutting_70 : decode cX6_byPutting 70 = .ok (.iinc 4 1, 3) := by decide +kernel
theorem dX6_byPutting_73 : decode cX6_byPutting 73 = .ok (.goto (-40), 3) := by decide +kernel
theorem dX6_byPutting_76 : decode cX6_byPutting 76 = .ok (.aload_n 0, 1) := by decide +kernel
theorem dX6_byPutting_77 : decode cX6_byPutting 77 = .ok (.getfield 7, 3) := by decide +kernel
theorem dX6_byPutting_80 : decode cX6_byPutting 80 = .ok (.iconst 0, 1) := by decide +kernel
theorem dX6_byPutting_81 : decode cX6_byPutting 81 = .ok (.aload_n 0, 1) := by decide +kernel
theorem dX6_byPutting_82 : decode cX6_byPutting 82 = .ok (.getfield 13, 3) := by decide +kernel
theorem dX6_byPutting_85 : decode cX6_byPutting 85 = .ok (.iconst 0, 1) := by decide +kernel
theorem dX6_byPutting_86 : decode cX6_byPutting 86 = .ok (.invokestatic 84, 3) := by decide +kernel
theorem dX6_byPutting_89 : decode cX6_byPutting 89 = .ok (.aload_n 0, 1) := by decide +kernel
theorem dX6_byPutting_90 : decode cX6_byPutting 90 = .ok (.getfield 13, 3) := by decide +kernel
theorem dX6_byPutting_93 : decode cX6_byPutting 93 = .ok (.iload_n 1, 1) := by decide +kernel
theorem dX6_byPutting_94 : decode cX6_byPutting 94 = .ok (.iconst 1, 1) := by decide +kernel
theorem dX6_byPutting_95 : decode cX6_byPutting 95 = .ok (.iload_n 2, 1) := by decide +kernel
theorem dX6_byPutting_96 : decode cX6_byPutting 96 = .ok (.invokestatic 191, 3) := by decide +kernel
theorem dX6_byPutting_99 : decode cX6_byPutting 99 = .ok (.pop, 1) := by decide +kernel
theorem dX6_byPutting_100 : decode cX6_byPutting 100 = .ok (.aload_n 0, 1) := by decide +kernel
theorem dX6_byPutting_101 : decode cX6_byPutting 101 = .ok (.aload_n 0, 1) := by decide +kernel
theorem dX6_byPutting_102 : decode cX6_byPutting 102 = .ok (.getfield 13, 3) := by decide +kernel
theorem dX6_byPutting_105 : decode cX6_byPutting 105 = .ok (.invokevirtual 170, 3) := by decide +kernel
theorem dX6_byPutting_108 : decode cX6_byPutting 108 = .ok (.iconst 0, 1) := by decide +kernel
theorem dX6_byPutting_109 : decode cX6_byPutting 109 = .ok (.istore 4, 2) := by decide +kernel
theorem dX6_byPutting_111 : decode cX6_byPutting 111 = .ok (.iconst 0, 1) := by decide +kernel
theorem dX6_byPutting_112 : decode cX6_byPutting 112 = .ok (.istore 5, 2) := by decide +kernel
theorem dX6_byPutting_114 : decode cX6_byPutting 114 = .ok (.iload 5, 2) := by decide +kernel
theorem dX6_byPutting_116 : decode cX6_byPutting 116 = .ok (.bipush 125, 2) := by decide +kernel
theorem dX6_byPutting_118 : decode cX6_byPutting 118 = .ok (.if_icmp .ge 60, 3) := by decide +kernel
theorem dX6_byPutting_121 : decode cX6_byPutting 121 = .ok (.iload 4, 2) := by decide +kernel
theorem dX6_byPutting_123 : decode cX6_byPutting 123 = .ok (.aload_n 0, 1) := by decide +kernel
theorem dX6_byPutting_124 : decode cX6_byPutting 124 = .ok (.getfield 13, 3) := by decide +kernel
theorem dX6_byPutting_127 : decode cX6_byPutting 127 = .ok (.iload 5, 2) := by decide +kernel
theorem dX6_byPutting_129 : decode cX6_byPutting 129 = .ok (.invokestatic 103, 3) := by decide +kernel
theorem dX6_byPutting_132 : decode cX6_byPutting 132 = .ok (.ifCond .eq 36, 3) := by decide +kernel
theorem dX6_byPutting_135 : decode cX6_byPutting 135 = .ok (.aload_n 0, 1) := by decide +kernel
theorem dX6_byPutting_136 : decode cX6_byPutting 136 = .ok (.getfield 13, 3) := by decide +kernel
theorem dX6_byPutting_139 : decode cX6_byPutting 139 = .ok (.iload 5, 2) := by decide +kernel
theorem dX6_byPutting_141 : decode cX6_byPutting 141 = .ok (.invokestatic 148, 3) := by decide +kernel
theorem dX6_byPutting_144 : decode cX6_byPutting 144 = .ok (.ifCond .eq 24, 3) := by decide +kernel
theorem dX6_byPutting_147 : decode cX6_byPutting 147 = .ok (.aload_n 0, 1) := by decide +kernel
theorem dX6_byPutting_148 : decode cX6_byPutting 148 = .ok (.getfield 40, 3) := by decide +kernel
theorem dX6_byPutting_151 : decode cX6_byPutting 151 = .ok (.iload 5, 2) := by decide +kernel
theorem dX6_byPutting_153 : decode cX6_byPutting 153 = .ok (.iaload, 1) := by decide +kernel
theorem dX6_byPutting_154 : decode cX6_byPutting 154 = .ok (.aload_n 0, 1) := by decide +kernel
theorem dX6_byPutting_155 : decode cX6_byPutting 155 = .ok (.getfield 43, 3) := by decide +kernel
theorem dX6_byPutting_158 : decode cX6_byPutting 158 = .ok (.iload 5, 2) := by decide +kernel
theorem dX6_byPutting_160 : decode cX6_byPutting 160 = .ok (.iaload, 1) := by decide +kernel
theorem dX6_byPutting_161 : decode cX6_byPutting 161 = .ok (.if_icmp .eq 7, 3) := by decide +kernel
theorem dX6_byPutting_164 : decode cX6_byPutting 164 = .ok (.iconst 1, 1) := by decide +kernel
theorem dX6_byPutting_165 : decode cX6_byPutting 165 = .ok (.goto 4, 3) := by decide +kernel
theorem dX6_byPutting_168 : decode cX6_byPutting 168 = .ok (.iconst 0, 1) := by decide +kernel
theorem dX6_byPutting_169 : decode cX6_byPutting 169 = .ok (.iadd, 1) := by decide +kernel
theorem dX6_byPutting_170 : decode cX6_byPutting 170 = .ok (.istore 4, 2) := by decide +kernel
theorem dX6_byPutting_172 : decode cX6_byPutting 172 = .ok (.iinc 5 1, 3) := by decide +kernel
theorem dX6_byPutting_175 : decode cX6_byPutting 175 = .ok (.goto (-61), 3) := by decide +kernel
theorem dX6_byPutting_178 : decode cX6_byPutting 178 = .ok (.iload_n 3, 1) := by decide +kernel
theorem dX6_byPutting_179 : decode cX6_byPutting 179 = .ok (.ifCond .ne 12, 3) := by decide +kernel
theorem dX6_byPutting_182 : decode cX6_byPutting 182 = .ok (.aload_n 0, 1) := by decide +kernel
theorem dX6_byPutting_183 : decode cX6_byPutting 183 = .ok (.getfield 25, 3) := by decide +kernel
theorem dX6_byPutting_186 : decode cX6_byPutting 186 = .ok (.iconst 0, 1) := by decide +kernel
theorem dX6_byPutting_187 : decode cX6_byPutting 187 = .ok (.iaload, 1) := by decide +kernel
theorem dX6_byPutting_188 : decode cX6_byPutting 188 = .ok (.goto 19, 3) := by decide +kernel
theorem dX6_byPutting_191 : decode cX6_byPutting 191 = .ok (.iload_n 3, 1) := by decide +kernel
theorem dX6_byPutting_192 : decode cX6_byPutting 192 = .ok (.iconst 1, 1) := by decide +kernel
theorem dX6_byPutting_193 : decode cX6_byPutting 193 = .ok (.if_icmp .ne 8, 3) := by decide +kernel
theorem dX6_byPutting_196 : decode cX6_byPutting 196 = .ok (.iload 4, 2) := by decide +kernel
theorem dX6_byPutting_198 : decode cX6_byPutting 198 = .ok (.goto 9, 3) := by decide +kernel
theorem dX6_byPutting_201 : decode cX6_byPutting 201 = .ok (.aload_n 0, 1) := by decide +kernel
theorem dX6_byPutting_202 : decode cX6_byPutting 202 = .ok (.getfield 28, 3) := by decide +kernel
theorem dX6_byPutting_205 : decode cX6_byPutting 205 = .ok (.iconst 0, 1) := by decide +kernel
theorem dX6_byPutting_206 : decode cX6_byPutting 206 = .ok (.iaload, 1) := by decide +kernel
theorem dX6_byPutting_207 : decode cX6_byPutting 207 = .ok (.istore 5, 2) := by decide +kernel
theorem dX6_byPutting_209 : decode cX6_byPutting 209 = .ok (.aload_n 0, 1) := by decide +kernel
theorem dX6_byPutting_210 : decode cX6_byPutting 210 = .ok (.aload_n 0, 1) := by decide +kernel
theorem dX6_byPutting_211 : decode cX6_byPutting 211 = .ok (.getfield 7, 3) := by decide +kernel
theorem dX6_byPutting_214 : decode cX6_byPutting 214 = .ok (.invokevirtual 170, 3) := by decide +kernel
theorem dX6_byPutting_217 : decode cX6_byPutting 217 = .ok (.iload 5, 2) := by decide +kernel
theorem dX6_byPutting_219 : decode cX6_byPutting 219 = .ok (.ireturn, 1) := by decide +kernel
theorem dX6_ifPut_0 : decode cX6_ifPut 0 = .ok (.aload_n 0, 1) := by decide +kernel
theorem dX6_ifPut_1 : decode cX6_ifPut 1 = .ok (.iconst 0, 1) := by decide +kernel
theorem dX6_ifPut_2 : decode cX6_ifPut 2 = .ok (.putfield 62, 3) := by decide +kernel
theorem dX6_ifPut_5 : decode cX6_ifPut 5 = .ok (.aload_n 0, 1) := by decide +kernel
theorem dX6_ifPut_6 : decode cX6_ifPut 6 = .ok (.iload_n 1, 1) := by decide +kernel
theorem dX6_ifPut_7 : decode cX6_ifPut 7 = .ok (.iload_n 2, 1) := by decide +kernel
theorem dX6_ifPut_8 : decode cX6_ifPut 8 = .ok (.iload_n 3, 1) := by decide +kernel
theorem dX6_ifPut_9 : decode cX6_ifPut 9 = .ok (.invokevirtual 180, 3) := by decide +kernel
theorem dX6_ifPut_12 : decode cX6_ifPut 12 = .ok (.ifCond .ne 9, 3) := by decide +kernel
theorem dX6_ifPut_15 : decode cX6_ifPut 15 = .ok (.aload_n 0, 1) := by decide +kernel
theorem dX6_ifPut_16 : decode cX6_ifPut 16 = .ok (.iconst 1, 1) := by decide +kernel
theorem dX6_ifPut_17 : decode cX6_ifPut 17 = .ok (.invokevirtual 88, 3) := by decide +kernel
theorem dX6_ifPut_20 : decode cX6_ifPut 20 = .ok (.ireturn, 1) := by decide +kernel
theorem dX6_ifPut_21 : decode cX6_ifPut 21 = .ok (.iload 4, 2) := by decide +kernel
theorem dX6_ifPut_23 : decode cX6_ifPut 23 = .ok (.sipush (-999), 3) := by decide +kernel
theorem dX6_ifPut_26 : decode cX6_ifPut 26 = .ok (.sipush 999, 3) := by decide +kernel
theorem dX6_ifPut_29 : decode cX6_ifPut 29 = .ok (.invokestatic 66, 3) := by decide +kernel
theorem dX6_ifPut_32 : decode cX6_ifPut 32 = .ok (.ifCond .eq 30, 3) := by decide +kernel
theorem dX6_ifPut_35 : decode cX6_ifPut 35 = .ok (.iload 5, 2) := by decide +kernel
theorem dX6_ifPut_37 : decode cX6_ifPut 37 = .ok (.iconst 0, 1) := by decide +kernel
theorem dX6_ifPut_38 : decode cX6_ifPut 38 = .ok (.iconst 2, 1) := by decide +kernel
theorem dX6_ifPut_39 : decode cX6_ifPut 39 = .ok (.invokestatic 66, 3) := by decide +kernel
theorem dX6_ifPut_42 : decode cX6_ifPut 42 = .ok (.ifCond .eq 20, 3) := by decide +kernel
theorem dX6_ifPut_45 : decode cX6_ifPut 45 = .ok (.aload_n 0, 1) := by decide +kernel
theorem dX6_ifPut_46 : decode cX6_ifPut 46 = .ok (.iload_n 1, 1) := by decide +kernel
theorem dX6_ifPut_47 : decode cX6_ifPut 47 = .ok (.iload_n 2, 1) := by decide +kernel
theorem dX6_ifPut_48 : decode cX6_ifPut 48 = .ok (.iload_n 3, 1) := by decide +kernel
theorem dX6_ifPut_49 : decode cX6_ifPut 49 = .ok (.invokestatic 125, 3) := by decide +kernel
theorem dX6_ifPut_52 : decode cX6_ifPut 52 = .ok (.iload 4, 2) := by decide +kernel
theorem dX6_ifPut_54 : decode cX6_ifPut 54 = .ok (.iload 5, 2) := by decide +kernel
theorem dX6_ifPut_56 : decode cX6_ifPut 56 = .ok (.invokevirtual 264, 3) := by decide +kernel
theorem dX6_ifPut_59 : decode cX6_ifPut 59 = .ok (.goto 8, 3) := by decide +kernel
theorem dX6_ifPut_62 : decode cX6_ifPut 62 = .ok (.aload_n 0, 1) := by decide +kernel
theorem dX6_ifPut_63 : decode cX6_ifPut 63 = .ok (.iconst 2, 1) := by decide +kernel
theorem dX6_ifPut_64 : decode cX6_ifPut 64 = .ok (.invokevirtual 88, 3) := by decide +kernel
theorem dX6_ifPut_67 : decode cX6_ifPut 67 = .ok (.ireturn, 1) := by decide +kernel
theorem dX6_counters_0 : decode cX6_counters 0 = .ok (.aload_n 0, 1) := by decide +kernel
theorem dX6_counters_1 : decode cX6_counters 1 = .ok (.getfield 7, 3) := by decide +kernel
theorem dX6_counters_4 : decode cX6_counters 4 = .ok (.iload_n 1, 1) := by decide +kernel
theorem dX6_counters_5 : decode cX6_counters 5 = .ok (.invokestatic 103, 3) := by decide +kernel
theorem dX6_counters_8 : decode cX6_counters 8 = .ok (.ifCond .ne 5, 3) := by decide +kernel
theorem dX6_counters_11 : decode cX6_counters 11 = .ok (.iconst (-1), 1) := by decide +kernel
theorem dX6_counters_12 : decode cX6_counters 12 = .ok (.ireturn, 1) := by decide +kernel
theorem dX6_counters_13 : decode cX6_counters 13 = .ok (.iconst 0, 1) := by decide +kernel
theorem dX6_counters_14 : decode cX6_counters 14 = .ok (.istore_n 2, 1) := by decide +kernel
theorem dX6_counters_15 : decode cX6_counters 15 = .ok (.aload_n 0, 1) := by decide +kernel
theorem dX6_counters_16 : decode cX6_counters 16 = .ok (.getfield 7, 3) := by decide +kernel
theorem dX6_counters_19 : decode cX6_counters 19 = .ok (.iload_n 1, 1) := by decide +kernel
theorem dX6_counters_20 : decode cX6_counters 20 = .ok (.invokestatic 148, 3) := by decide +kernel
theorem dX6_counters_23 : decode cX6_counters 23 = .ok (.ifCond .eq 7, 3) := by decide +kernel
theorem dX6_counters_26 : decode cX6_counters 26 = .ok (.iconst (-1), 1) := by decide +kernel
theorem dX6_counters_27 : decode cX6_counters 27 = .ok (.goto 4, 3) := by decide +kernel
theorem dX6_counters_30 : decode cX6_counters 30 = .ok (.iload_n 1, 1) := by decide +kernel
theorem dX6_counters_31 : decode cX6_counters 31 = .ok (.istore_n 3, 1) := by decide +kernel
theorem dX6_counters_32 : decode cX6_counters 32 = .ok (.iload_n 3, 1) := by decide +kernel
theorem dX6_counters_33 : decode cX6_counters 33 = .ok (.iconst (-1), 1) := by decide +kernel
theorem dX6_counters_34 : decode cX6_counters 34 = .ok (.if_icmp .eq 102, 3) := by decide +kernel
theorem dX6_counters_37 : decode cX6_counters 37 = .ok (.iload_n 3, 1) := by decide +kernel
theorem dX6_counters_38 : decode cX6_counters 38 = .ok (.bipush 25, 2) := by decide +kernel
theorem dX6_counters_40 : decode cX6_counters 40 = .ok (.idiv, 1) := by decide +kernel
theorem dX6_counters_41 : decode cX6_counters 41 = .ok (.istore 4, 2) := by decide +kernel
theorem dX6_counters_43 : decode cX6_counters 43 = .ok (.iconst 0, 1) := by decide +kernel
theorem dX6_counters_44 : decode cX6_counters 44 = .ok (.istore 5, 2) := by decide +kernel
theorem dX6_counters_46 : decode cX6_counters 46 = .ok (.iload 5, 2) := by decide +kernel
theorem dX6_counters_48 : decode cX6_counters 48 = .ok (.bipush 25, 2) := by decide +kernel
theorem dX6_counters_50 : decode cX6_counters 50 = .ok (.if_icmp .ge 64, 3) := by decide +kernel
theorem dX6_counters_53 : decode cX6_counters 53 = .ok (.bipush 25, 2) := by decide +kernel
theorem dX6_counters_55 : decode cX6_counters 55 = .ok (.iload 4, 2) := by decide +kernel
theorem dX6_counters_57 : decode cX6_counters 57 = .ok (.imul, 1) := by decide +kernel
theorem dX6_counters_58 : decode cX6_counters 58 = .ok (.iload 5, 2) := by decide +kernel
theorem dX6_counters_60 : decode cX6_counters 60 = .ok (.iadd, 1) := by decide +kernel
theorem dX6_counters_61 : decode cX6_counters 61 = .ok (.istore 6, 2) := by decide +kernel
theorem dX6_counters_63 : decode cX6_counters 63 = .ok (.iload_n 2, 1) := by decide +kernel
theorem dX6_counters_64 : decode cX6_counters 64 = .ok (.aload_n 0, 1) := by decide +kernel
theorem dX6_counters_65 : decode cX6_counters 65 = .ok (.getfield 7, 3) := by decide +kernel
theorem dX6_counters_68 : decode cX6_counters 68 = .ok (.iload 6, 2) := by decide +kernel
theorem dX6_counters_70 : decode cX6_counters 70 = .ok (.invokestatic 103, 3) := by decide +kernel
theorem dX6_counters_73 : decode cX6_counters 73 = .ok (.ifCond .eq 32, 3) := by decide +kernel
theorem dX6_counters_76 : decode cX6_counters 76 = .ok (.aload_n 0, 1) := by decide +kernel
theorem dX6_counters_77 : decode cX6_counters 77 = .ok (.getfield 7, 3) := by decide +kernel
theorem dX6_counters_80 : decode cX6_counters 80 = .ok (.iload 6, 2) := by decide +kernel
theorem dX6_counters_82 : decode cX6_counters 82 = .ok (.invokestatic 148, 3) := by decide +kernel
theorem dX6_counters_85 : decode cX6_counters 85 = .ok (.ifCond .eq 20, 3) := by decide +kernel
theorem dX6_counters_88 : decode cX6_counters 88 = .ok (.aload_n 0, 1) := by decide +kernel
theorem dX6_counters_89 : decode cX6_counters 89 = .ok (.getfield 7, 3) := by decide +kernel
theorem dX6_counters_92 : decode cX6_counters 92 = .ok (.iload 6, 2) := by decide +kernel
theorem dX6_counters_94 : decode cX6_counters 94 = .ok (.iload_n 3, 1) := by decide +kernel
theorem dX6_counters_95 : decode cX6_counters 95 = .ok (.invokestatic 118, 3) := by decide +kernel
theorem dX6_counters_98 : decode cX6_counters 98 = .ok (.ifCond .eq 7, 3) := by decide +kernel
theorem dX6_counters_101 : decode cX6_counters 101 = .ok (.iconst 1, 1) := by decide +kernel
theorem dX6_counters_102 : decode cX6_counters 102 = .ok (.goto 4, 3) := by decide +kernel
theorem dX6_counters_105 : decode cX6_counters 105 = .ok (.iconst 0, 1) := by decide +kernel
theorem dX6_counters_106 : decode cX6_counters 106 = .ok (.iadd, 1) := by decide +kernel
theorem dX6_counters_107 : decode cX6_counters 107 = .ok (.istore_n 2, 1) := by decide +kernel
theorem dX6_counters_108 : decode cX6_counters 108 = .ok (.iinc 5 1, 3) := by decide +kernel
theorem dX6_counters_111 : decode cX6_counters 111 = .ok (.goto (-65), 3) := by decide +kernel
theorem dX6_counters_114 : decode cX6_counters 114 = .ok (.iload 4, 2) := by decide +kernel
theorem dX6_counters_116 : decode cX6_counters 116 = .ok (.ifCond .ne 7, 3) := by decide +kernel
theorem dX6_counters_119 : decode cX6_counters 119 = .ok (.iconst (-1), 1) := by decide +kernel
theorem dX6_counters_120 : decode cX6_counters 120 = .ok (.goto 12, 3) := by decide +kernel
theorem dX6_counters_123 : decode cX6_counters 123 = .ok (.aload_n 0, 1) := by decide +kernel
theorem dX6_counters_124 : decode cX6_counters 124 = .ok (.getfield 7, 3) := by decide +kernel
theorem dX6_counters_127 : decode cX6_counters 127 = .ok (.iload 4, 2) := by decide +kernel
theorem dX6_counters_129 : decode cX6_counters 129 = .ok (.invokestatic 242, 3) := by decide +kernel
theorem dX6_counters_132 : decode cX6_counters 132 = .ok (.istore_n 3, 1) := by decide +kernel
theorem dX6_counters_133 : decode cX6_counters 133 = .ok (.goto (-101), 3) := by decide +kernel
theorem dX6_counters_136 : decode cX6_counters 136 = .ok (.iload_n 2, 1) := by decide +kernel
theorem dX6_counters_137 : decode cX6_counters 137 = .ok (.ireturn, 1) := by decide +kernel
theorem dX6_countedBy_0 : decode cX6_countedBy 0 = .ok (.aload_n 0, 1) := by decide +kernel
theorem dX6_countedBy_1 : decode cX6_countedBy 1 = .ok (.iconst 0, 1) := by decide +kernel
theorem dX6_countedBy_2 : decode cX6_countedBy 2 = .ok (.putfield 62, 3) := by decide +kernel
theorem dX6_countedBy_5 : decode cX6_countedBy 5 = .ok (.aload_n 0, 1) := by decide +kernel
theorem dX6_countedBy_6 : decode cX6_countedBy 6 = .ok (.iload_n 1, 1) := by decide +kernel
theorem dX6_countedBy_7 : decode cX6_countedBy 7 = .ok (.iload_n 2, 1) := by decide +kernel
theorem dX6_countedBy_8 : decode cX6_countedBy 8 = .ok (.iload_n 3, 1) := by decide +kernel
theorem dX6_countedBy_9 : decode cX6_countedBy 9 = .ok (.invokevirtual 180, 3) := by decide +kernel
theorem dX6_countedBy_12 : decode cX6_countedBy 12 = .ok (.ifCond .eq 16, 3) := by decide +kernel
theorem dX6_countedBy_15 : decode cX6_countedBy 15 = .ok (.aload_n 0, 1) := by decide +kernel
theorem dX6_countedBy_16 : decode cX6_countedBy 16 = .ok (.iload_n 1, 1) := by decide +kernel
theorem dX6_countedBy_17 : decode cX6_countedBy 17 = .ok (.iload_n 2, 1) := by decide +kernel
theorem dX6_countedBy_18 : decode cX6_countedBy 18 = .ok (.iload_n 3, 1) := by decide +kernel
theorem dX6_countedBy_19 : decode cX6_countedBy 19 = .ok (.invokestatic 125, 3) := by decide +kernel
theorem dX6_countedBy_22 : decode cX6_countedBy 22 = .ok (.invokevirtual 267, 3) := by decide +kernel
theorem dX6_countedBy_25 : decode cX6_countedBy 25 = .ok (.goto 8, 3) := by decide +kernel
theorem dX6_countedBy_28 : decode cX6_countedBy 28 = .ok (.aload_n 0, 1) := by decide +kernel
theorem dX6_countedBy_29 : decode cX6_countedBy 29 = .ok (.iconst 1, 1) := by decide +kernel
theorem dX6_countedBy_30 : decode cX6_countedBy 30 = .ok (.invokevirtual 88, 3) := by decide +kernel
theorem dX6_countedBy_33 : decode cX6_countedBy 33 = .ok (.ireturn, 1) := by decide +kernel
theorem dX6_leastFor_0 : decode cX6_leastFor 0 = .ok (.iconst 1, 1) := by decide +kernel
theorem dX6_leastFor_1 : decode cX6_leastFor 1 = .ok (.istore_n 2, 1) := by decide +kernel
theorem dX6_leastFor_2 : decode cX6_leastFor 2 = .ok (.iload_n 2, 1) := by decide +kernel
theorem dX6_leastFor_3 : decode cX6_leastFor 3 = .ok (.bipush 60, 2) := by decide +kernel
theorem dX6_leastFor_5 : decode cX6_leastFor 5 = .ok (.if_icmp .gt 22, 3) := by decide +kernel
theorem dX6_leastFor_8 : decode cX6_leastFor 8 = .ok (.aload_n 0, 1) := by decide +kernel
theorem dX6_leastFor_9 : decode cX6_leastFor 9 = .ok (.aload_n 0, 1) := by decide +kernel
theorem dX6_leastFor_10 : decode cX6_leastFor 10 = .ok (.getfield 7, 3) := by decide +kernel
theorem dX6_leastFor_13 : decode cX6_leastFor 13 = .ok (.iload_n 2, 1) := by decide +kernel
theorem dX6_leastFor_14 : decode cX6_leastFor 14 = .ok (.invokevirtual 248, 3) := by decide +kernel
theorem dX6_leastFor_17 : decode cX6_leastFor 17 = .ok (.iload_n 1, 1) := by decide +kernel
theorem dX6_leastFor_18 : decode cX6_leastFor 18 = .ok (.if_icmp .le 9, 3) := by decide +kernel
theorem dX6_leastFor_21 : decode cX6_leastFor 21 = .ok (.iinc 2 1, 3) := by decide +kernel
theorem dX6_leastFor_24 : decode cX6_leastFor 24 = .ok (.goto (-22), 3) := by decide +kernel
theorem dX6_leastFor_27 : decode cX6_leastFor 27 = .ok (.iload_n 2, 1) := by decide +kernel
theorem dX6_leastFor_28 : decode cX6_leastFor 28 = .ok (.bipush 60, 2) := by decide +kernel
theorem dX6_leastFor_30 : decode cX6_leastFor 30 = .ok (.if_icmp .le 7, 3) := by decide +kernel
theorem dX6_leastFor_33 : decode cX6_leastFor 33 = .ok (.iconst (-1), 1) := by decide +kernel
theorem dX6_leastFor_34 : decode cX6_leastFor 34 = .ok (.goto 4, 3) := by decide +kernel
theorem dX6_leastFor_37 : decode cX6_leastFor 37 = .ok (.iload_n 2, 1) := by decide +kernel
theorem dX6_leastFor_38 : decode cX6_leastFor 38 = .ok (.ireturn, 1) := by decide +kernel
theorem dX6_heightFor_0 : decode cX6_heightFor 0 = .ok (.aload_n 0, 1) := by decide +kernel
theorem dX6_heightFor_1 : decode cX6_heightFor 1 = .ok (.iconst 0, 1) := by decide +kernel
theorem dX6_heightFor_2 : decode cX6_heightFor 2 = .ok (.putfield 62, 3) := by decide +kernel
theorem dX6_heightFor_5 : decode cX6_heightFor 5 = .ok (.iload_n 1, 1) := by decide +kernel
theorem dX6_heightFor_6 : decode cX6_heightFor 6 = .ok (.iconst 1, 1) := by decide +kernel
theorem dX6_heightFor_7 : decode cX6_heightFor 7 = .ok (.iconst 5, 1) := by decide +kernel
theorem dX6_heightFor_8 : decode cX6_heightFor 8 = .ok (.invokestatic 66, 3) := by decide +kernel
theorem dX6_heightFor_11 : decode cX6_heightFor 11 = .ok (.ifCond .ne 9, 3) := by decide +kernel
theorem dX6_heightFor_14 : decode cX6_heightFor 14 = .ok (.aload_n 0, 1) := by decide +kernel
theorem dX6_heightFor_15 : decode cX6_heightFor 15 = .ok (.iconst 1, 1) := by decide +kernel
theorem dX6_heightFor_16 : decode cX6_heightFor 16 = .ok (.invokevirtual 88, 3) := by decide +kernel
theorem dX6_heightFor_19 : decode cX6_heightFor 19 = .ok (.ireturn, 1) := by decide +kernel
theorem dX6_heightFor_20 : decode cX6_heightFor 20 = .ok (.aload_n 0, 1) := by decide +kernel
theorem dX6_heightFor_21 : decode cX6_heightFor 21 = .ok (.invokevirtual 236, 3) := by decide +kernel
theorem dX6_heightFor_24 : decode cX6_heightFor 24 = .ok (.aload_n 0, 1) := by decide +kernel
theorem dX6_heightFor_25 : decode cX6_heightFor 25 = .ok (.iload_n 1, 1) := by decide +kernel
theorem dX6_heightFor_26 : decode cX6_heightFor 26 = .ok (.invokevirtual 270, 3) := by decide +kernel
theorem dX6_heightFor_29 : decode cX6_heightFor 29 = .ok (.ireturn, 1) := by decide +kernel
theorem dX6_share_0 : decode cX6_share 0 = .ok (.aload_n 0, 1) := by decide +kernel
theorem dX6_share_1 : decode cX6_share 1 = .ok (.iconst (-1), 1) := by decide +kernel
theorem dX6_share_2 : decode cX6_share 2 = .ok (.invokevirtual 251, 3) := by decide +kernel
theorem dX6_share_5 : decode cX6_share 5 = .ok (.istore_n 1, 1) := by decide +kernel
theorem dX6_share_6 : decode cX6_share 6 = .ok (.iload_n 1, 1) := by decide +kernel
theorem dX6_share_7 : decode cX6_share 7 = .ok (.aload_n 0, 1) := by decide +kernel
theorem dX6_share_8 : decode cX6_share 8 = .ok (.iconst 0, 1) := by decide +kernel
theorem dX6_share_9 : decode cX6_share 9 = .ok (.invokevirtual 251, 3) := by decide +kernel
theorem dX6_share_12 : decode cX6_share 12 = .ok (.isub, 1) := by decide +kernel
theorem dX6_share_13 : decode cX6_share 13 = .ok (.i2d, 1) := by decide +kernel
theorem dX6_share_14 : decode cX6_share 14 = .ok (.iload_n 1, 1) := by decide +kernel
theorem dX6_share_15 : decode cX6_share 15 = .ok (.i2d, 1) := by decide +kernel
theorem dX6_share_16 : decode cX6_share 16 = .ok (.ddiv, 1) := by decide +kernel
theorem dX6_share_17 : decode cX6_share 17 = .ok (.dreturn, 1) := by decide +kernel
theorem dX6_filledShare_0 : decode cX6_filledShare 0 = .ok (.aload_n 0, 1) := by decide +kernel
theorem dX6_filledShare_1 : decode cX6_filledShare 1 = .ok (.iconst 0, 1) := by decide +kernel
theorem dX6_filledShare_2 : decode cX6_filledShare 2 = .ok (.putfield 62, 3) := by decide +kernel
theorem dX6_filledShare_5 : decode cX6_filledShare 5 = .ok (.aload_n 0, 1) := by decide +kernel
theorem dX6_filledShare_6 : decode cX6_filledShare 6 = .ok (.invokevirtual 273, 3) := by decide +kernel
theorem dX6_filledShare_9 : decode cX6_filledShare 9 = .ok (.dreturn, 1) := by decide +kernel
theorem dX6_digest_0 : decode cX6_digest 0 = .ok (.aload_n 0, 1) := by decide +kernel
theorem dX6_digest_1 : decode cX6_digest 1 = .ok (.iconst 0, 1) := by decide +kernel
theorem dX6_digest_2 : decode cX6_digest 2 = .ok (.putfield 62, 3) := by decide +kernel
theorem dX6_digest_5 : decode cX6_digest 5 = .ok (.aload_n 0, 1) := by decide +kernel
theorem dX6_digest_6 : decode cX6_digest 6 = .ok (.invokevirtual 236, 3) := by decide +kernel
theorem dX6_digest_9 : decode cX6_digest 9 = .ok (.ldc2_w 277, 3) := by decide +kernel
theorem dX6_digest_12 : decode cX6_digest 12 = .ok (.lstore_n 1, 1) := by decide +kernel
theorem dX6_digest_13 : decode cX6_digest 13 = .ok (.iconst 0, 1) := by decide +kernel
theorem dX6_digest_14 : decode cX6_digest 14 = .ok (.istore_n 3, 1) := by decide +kernel
theorem dX6_digest_15 : decode cX6_digest 15 = .ok (.iload_n 3, 1) := by decide +kernel
theorem dX6_digest_16 : decode cX6_digest 16 = .ok (.bipush 13, 2) := by decide +kernel
theorem dX6_digest_18 : decode cX6_digest 18 = .ok (.if_icmp .ge 22, 3) := by decide +kernel
theorem dX6_digest_21 : decode cX6_digest 21 = .ok (.ldc2_w 279, 3) := by decide +kernel
theorem dX6_digest_24 : decode cX6_digest 24 = .ok (.lload_n 1, 1) := by decide +kernel
theorem dX6_digest_25 : decode cX6_digest 25 = .ok (.lmul, 1) := by decide +kernel
theorem dX6_digest_26 : decode cX6_digest 26 = .ok (.aload_n 0, 1) := by decide +kernel
theorem dX6_digest_27 : decode cX6_digest 27 = .ok (.iload_n 3, 1) := by decide +kernel
theorem dX6_digest_28 : decode cX6_digest 28 = .ok (.invokevirtual 261, 3) := by decide +kernel
theorem dX6_digest_31 : decode cX6_digest 31 = .ok (.i2l, 1) := by decide +kernel
theorem dX6_digest_32 : decode cX6_digest 32 = .ok (.ladd, 1) := by decide +kernel
theorem dX6_digest_33 : decode cX6_digest 33 = .ok (.lstore_n 1, 1) := by decide +kernel
theorem dX6_digest_34 : decode cX6_digest 34 = .ok (.iinc 3 1, 3) := by decide +kernel
theorem dX6_digest_37 : decode cX6_digest 37 = .ok (.goto (-22), 3) := by decide +kernel
theorem dX6_digest_40 : decode cX6_digest 40 = .ok (.ldc2_w 279, 3) := by decide +kernel
theorem dX6_digest_43 : decode cX6_digest 43 = .ok (.lload_n 1, 1) := by decide +kernel
theorem dX6_digest_44 : decode cX6_digest 44 = .ok (.lmul, 1) := by decide +kernel
theorem dX6_digest_45 : decode cX6_digest 45 = .ok (.aload_n 0, 1) := by decide +kernel
theorem dX6_digest_46 : decode cX6_digest 46 = .ok (.getfield 7, 3) := by decide +kernel
theorem dX6_digest_49 : decode cX6_digest 49 = .ok (.iconst 1, 1) := by decide +kernel
theorem dX6_digest_50 : decode cX6_digest 50 = .ok (.iaload, 1) := by decide +kernel
theorem dX6_digest_51 : decode cX6_digest 51 = .ok (.i2l, 1) := by decide +kernel
theorem dX6_digest_52 : decode cX6_digest 52 = .ok (.ladd, 1) := by decide +kernel
theorem dX6_digest_53 : decode cX6_digest 53 = .ok (.lstore_n 1, 1) := by decide +kernel
theorem dX6_digest_54 : decode cX6_digest 54 = .ok (.iconst 0, 1) := by decide +kernel
theorem dX6_digest_55 : decode cX6_digest 55 = .ok (.istore_n 3, 1) := by decide +kernel
theorem dX6_digest_56 : decode cX6_digest 56 = .ok (.iload_n 3, 1) := by decide +kernel
theorem dX6_digest_57 : decode cX6_digest 57 = .ok (.aload_n 0, 1) := by decide +kernel
theorem dX6_digest_58 : decode cX6_digest 58 = .ok (.getfield 7, 3) := by decide +kernel
theorem dX6_digest_61 : decode cX6_digest 61 = .ok (.iconst 0, 1) := by decide +kernel
theorem dX6_digest_62 : decode cX6_digest 62 = .ok (.iaload, 1) := by decide +kernel
theorem dX6_digest_63 : decode cX6_digest 63 = .ok (.if_icmp .ge 269, 3) := by decide +kernel
theorem dX6_digest_66 : decode cX6_digest 66 = .ok (.iconst 0, 1) := by decide +kernel
theorem dX6_digest_67 : decode cX6_digest 67 = .ok (.istore 4, 2) := by decide +kernel
theorem dX6_digest_69 : decode cX6_digest 69 = .ok (.iload 4, 2) := by decide +kernel
theorem dX6_digest_71 : decode cX6_digest 71 = .ok (.bipush 8, 2) := by decide +kernel
theorem dX6_digest_73 : decode cX6_digest 73 = .ok (.if_icmp .ge 24, 3) := by decide +kernel
theorem dX6_digest_76 : decode cX6_digest 76 = .ok (.ldc2_w 279, 3) := by decide +kernel
theorem dX6_digest_79 : decode cX6_digest 79 = .ok (.lload_n 1, 1) := by decide +kernel
theorem dX6_digest_80 : decode cX6_digest 80 = .ok (.lmul, 1) := by decide +kernel
theorem dX6_digest_81 : decode cX6_digest 81 = .ok (.aload_n 0, 1) := by decide +kernel
theorem dX6_digest_82 : decode cX6_digest 82 = .ok (.iload_n 3, 1) := by decide +kernel
theorem dX6_digest_83 : decode cX6_digest 83 = .ok (.iload 4, 2) := by decide +kernel
theorem dX6_digest_85 : decode cX6_digest 85 = .ok (.invokevirtual 245, 3) := by decide +kernel
theorem dX6_digest_88 : decode cX6_digest 88 = .ok (.i2l, 1) := by decide +kernel
theorem dX6_digest_89 : decode cX6_digest 89 = .ok (.ladd, 1) := by decide +kernel
theorem dX6_digest_90 : decode cX6_digest 90 = .ok (.lstore_n 1, 1) := by decide +kernel
theorem dX6_digest_91 : decode cX6_digest 91 = .ok (.iinc 4 1, 3) := by decide +kernel
theorem dX6_digest_94 : decode cX6_digest 94 = .ok (.goto (-25), 3) := by decide +kernel
theorem dX6_digest_97 : decode cX6_digest 97 = .ok (.iconst 0, 1) := by decide +kernel
theorem dX6_digest_98 : decode cX6_digest 98 = .ok (.istore 4, 2) := by decide +kernel
theorem dX6_digest_100 : decode cX6_digest 100 = .ok (.iload 4, 2) := by decide +kernel
theorem dX6_digest_102 : decode cX6_digest 102 = .ok (.aload_n 0, 1) := by decide +kernel
theorem dX6_digest_103 : decode cX6_digest 103 = .ok (.getfield 7, 3) := by decide +kernel
theorem dX6_digest_106 : decode cX6_digest 106 = .ok (.bipush 7, 2) := by decide +kernel
theorem dX6_digest_108 : decode cX6_digest 108 = .ok (.iload_n 3, 1) := by decide +kernel
theorem dX6_digest_109 : decode cX6_digest 109 = .ok (.iadd, 1) := by decide +kernel
theorem dX6_digest_110 : decode cX6_digest 110 = .ok (.iaload, 1) := by decide +kernel
theorem dX6_digest_111 : decode cX6_digest 111 = .ok (.if_icmp .ge 28, 3) := by decide +kernel
theorem dX6_digest_114 : decode cX6_digest 114 = .ok (.ldc2_w 279, 3) := by decide +kernel
theorem dX6_digest_117 : decode cX6_digest 117 = .ok (.lload_n 1, 1) := by decide +kernel
theorem dX6_digest_118 : decode cX6_digest 118 = .ok (.lmul, 1) := by decide +kernel
theorem dX6_digest_119 : decode cX6_digest 119 = .ok (.aload_n 0, 1) := by decide +kernel
theorem dX6_digest_120 : decode cX6_digest 120 = .ok (.getfield 49, 3) := by decide +kernel
theorem dX6_digest_123 : decode cX6_digest 123 = .ok (.iconst 5, 1) := by decide +kernel
theorem dX6_digest_124 : decode cX6_digest 124 = .ok (.iload_n 3, 1) := by decide +kernel
theorem dX6_digest_125 : decode cX6_digest 125 = .ok (.imul, 1) := by decide +kernel
theorem dX6_digest_126 : decode cX6_digest 126 = .ok (.iload 4, 2) := by decide +kernel
theorem dX6_digest_128 : decode cX6_digest 128 = .ok (.iadd, 1) := by decide +kernel
theorem dX6_digest_129 : decode cX6_digest 129 = .ok (.iaload, 1) := by decide +kernel
theorem dX6_digest_130 : decode cX6_digest 130 = .ok (.i2l, 1) := by decide +kernel
theorem dX6_digest_131 : decode cX6_digest 131 = .ok (.ladd, 1) := by decide +kernel
theorem dX6_digest_132 : decode cX6_digest 132 = .ok (.lstore_n 1, 1) := by decide +kernel
theorem dX6_digest_133 : decode cX6_digest 133 = .ok (.iinc 4 1, 3) := by decide +kernel
theorem dX6_digest_136 : decode cX6_digest 136 = .ok (.goto (-36), 3) := by decide +kernel
theorem dX6_digest_139 : decode cX6_digest 139 = .ok (.iconst 0, 1) := by decide +kernel
theorem dX6_digest_140 : decode cX6_digest 140 = .ok (.istore 4, 2) := by decide +kernel
theorem dX6_digest_142 : decode cX6_digest 142 = .ok (.iload 4, 2) := by decide +kernel
theorem dX6_digest_144 : decode cX6_digest 144 = .ok (.aload_n 0, 1) := by decide +kernel
theorem dX6_digest_145 : decode cX6_digest 145 = .ok (.getfield 7, 3) := by decide +kernel
theorem dX6_digest_148 : decode cX6_digest 148 = .ok (.iconst 2, 1) := by decide +kernel
theorem dX6_digest_149 : decode cX6_digest 149 = .ok (.iload_n 3, 1) := by decide +kernel
theorem dX6_digest_150 : decode cX6_digest 150 = .ok (.iadd, 1) := by decide +kernel
theorem dX6_digest_151 : decode cX6_digest 151 = .ok (.iaload, 1) := by decide +kernel
theorem dX6_digest_152 : decode cX6_digest 152 = .ok (.if_icmp .ge 28, 3) := by decide +kernel
theorem dX6_digest_155 : decode cX6_digest 155 = .ok (.ldc2_w 279, 3) := by decide +kernel
theorem dX6_digest_158 : decode cX6_digest 158 = .ok (.lload_n 1, 1) := by decide +kernel
theorem dX6_digest_159 : decode cX6_digest 159 = .ok (.lmul, 1) := by decide +kernel
theorem dX6_digest_160 : decode cX6_digest 160 = .ok (.aload_n 0, 1) := by decide +kernel
theorem dX6_digest_161 : decode cX6_digest 161 = .ok (.getfield 52, 3) := by decide +kernel
theorem dX6_digest_164 : decode cX6_digest 164 = .ok (.iconst 5, 1) := by decide +kernel
theorem dX6_digest_165 : decode cX6_digest 165 = .ok (.iload_n 3, 1) := by decide +kernel
theorem dX6_digest_166 : decode cX6_digest 166 = .ok (.imul, 1) := by decide +kernel
theorem dX6_digest_167 : decode cX6_digest 167 = .ok (.iload 4, 2) := by decide +kernel
theorem dX6_digest_169 : decode cX6_digest 169 = .ok (.iadd, 1) := by decide +kernel
theorem dX6_digest_170 : decode cX6_digest 170 = .ok (.iaload, 1) := by decide +kernel
theorem dX6_digest_171 : decode cX6_digest 171 = .ok (.i2l, 1) := by decide +kernel
theorem dX6_digest_172 : decode cX6_digest 172 = .ok (.ladd, 1) := by decide +kernel
theorem dX6_digest_173 : decode cX6_digest 173 = .ok (.lstore_n 1, 1) := by decide +kernel
theorem dX6_digest_174 : decode cX6_digest 174 = .ok (.iinc 4 1, 3) := by decide +kernel
theorem dX6_digest_177 : decode cX6_digest 177 = .ok (.goto (-35), 3) := by decide +kernel
theorem dX6_digest_180 : decode cX6_digest 180 = .ok (.iconst 0, 1) := by decide +kernel
theorem dX6_digest_181 : decode cX6_digest 181 = .ok (.istore 4, 2) := by decide +kernel
theorem dX6_digest_183 : decode cX6_digest 183 = .ok (.iload 4, 2) := by decide +kernel
theorem dX6_digest_185 : decode cX6_digest 185 = .ok (.bipush 25, 2) := by decide +kernel
theorem dX6_digest_187 : decode cX6_digest 187 = .ok (.if_icmp .ge 139, 3) := by decide +kernel
theorem dX6_digest_190 : decode cX6_digest 190 = .ok (.bipush 25, 2) := by decide +kernel
theorem dX6_digest_192 : decode cX6_digest 192 = .ok (.iload_n 3, 1) := by decide +kernel
theorem dX6_digest_193 : decode cX6_digest 193 = .ok (.imul, 1) := by decide +kernel
theorem dX6_digest_194 : decode cX6_digest 194 = .ok (.iload 4, 2) := by decide +kernel
theorem dX6_digest_196 : decode cX6_digest 196 = .ok (.iadd, 1) := by decide +kernel
theorem dX6_digest_197 : decode cX6_digest 197 = .ok (.istore 5, 2) := by decide +kernel
theorem dX6_digest_199 : decode cX6_digest 199 = .ok (.iconst 0, 1) := by decide +kernel
theorem dX6_digest_200 : decode cX6_digest 200 = .ok (.istore 6, 2) := by decide +kernel
theorem dX6_digest_202 : decode cX6_digest 202 = .ok (.iload 6, 2) := by decide +kernel
theorem dX6_digest_204 : decode cX6_digest 204 = .ok (.bipush 12, 2) := by decide +kernel
theorem dX6_digest_206 : decode cX6_digest 206 = .ok (.if_icmp .ge 37, 3) := by decide +kernel
theorem dX6_digest_209 : decode cX6_digest 209 = .ok (.aload_n 0, 1) := by decide +kernel
theorem dX6_digest_210 : decode cX6_digest 210 = .ok (.getfield 7, 3) := by decide +kernel
theorem dX6_digest_213 : decode cX6_digest 213 = .ok (.iload 5, 2) := by decide +kernel
theorem dX6_digest_215 : decode cX6_digest 215 = .ok (.invokestatic 74, 3) := by decide +kernel
theorem dX6_digest_218 : decode cX6_digest 218 = .ok (.ifCond .eq 25, 3) := by decide +kernel
theorem dX6_digest_221 : decode cX6_digest 221 = .ok (.ldc2_w 279, 3) := by decide +kernel
theorem dX6_digest_224 : decode cX6_digest 224 = .ok (.lload_n 1, 1) := by decide +kernel
theorem dX6_digest_225 : decode cX6_digest 225 = .ok (.lmul, 1) := by decide +kernel
theorem dX6_digest_226 : decode cX6_digest 226 = .ok (.aload_n 0, 1) := by decide +kernel
theorem dX6_digest_227 : decode cX6_digest 227 = .ok (.iload 5, 2) := by decide +kernel
theorem dX6_digest_229 : decode cX6_digest 229 = .ok (.iload 6, 2) := by decide +kernel
theorem dX6_digest_231 : decode cX6_digest 231 = .ok (.invokevirtual 239, 3) := by decide +kernel
theorem dX6_digest_234 : decode cX6_digest 234 = .ok (.i2l, 1) := by decide +kernel
theorem dX6_digest_235 : decode cX6_digest 235 = .ok (.ladd, 1) := by decide +kernel
theorem dX6_digest_236 : decode cX6_digest 236 = .ok (.lstore_n 1, 1) := by decide +kernel
theorem dX6_digest_237 : decode cX6_digest 237 = .ok (.iinc 6 1, 3) := by decide +kernel
theorem dX6_digest_240 : decode cX6_digest 240 = .ok (.goto (-38), 3) := by decide +kernel
theorem dX6_digest_243 : decode cX6_digest 243 = .ok (.iconst 0, 1) := by decide +kernel
theorem dX6_digest_244 : decode cX6_digest 244 = .ok (.istore 6, 2) := by decide +kernel
theorem dX6_digest_246 : decode cX6_digest 246 = .ok (.iload 6, 2) := by decide +kernel
theorem dX6_digest_248 : decode cX6_digest 248 = .ok (.iconst 4, 1) := by decide +kernel
theorem dX6_digest_249 : decode cX6_digest 249 = .ok (.if_icmp .ge 41, 3) := by decide +kernel
theorem dX6_digest_252 : decode cX6_digest 252 = .ok (.aload_n 0, 1) := by decide +kernel
theorem dX6_digest_253 : decode cX6_digest 253 = .ok (.getfield 7, 3) := by decide +kernel
theorem dX6_digest_256 : decode cX6_digest 256 = .ok (.iload 5, 2) := by decide +kernel
theorem dX6_digest_258 : decode cX6_digest 258 = .ok (.invokestatic 74, 3) := by decide +kernel
theorem dX6_digest_261 : decode cX6_digest 261 = .ok (.ifCond .eq 29, 3) := by decide +kernel
theorem dX6_digest_264 : decode cX6_digest 264 = .ok (.ldc2_w 279, 3) := by decide +kernel
theorem dX6_digest_267 : decode cX6_digest 267 = .ok (.lload_n 1, 1) := by decide +kernel
theorem dX6_digest_268 : decode cX6_digest 268 = .ok (.lmul, 1) := by decide +kernel
theorem dX6_digest_269 : decode cX6_digest 269 = .ok (.aload_n 0, 1) := by decide +kernel
theorem dX6_digest_270 : decode cX6_digest 270 = .ok (.aload_n 0, 1) := by decide +kernel
theorem dX6_digest_271 : decode cX6_digest 271 = .ok (.getfield 7, 3) := by decide +kernel
theorem dX6_digest_274 : decode cX6_digest 274 = .ok (.iload 5, 2) := by decide +kernel
theorem dX6_digest_276 : decode cX6_digest 276 = .ok (.iload 6, 2) := by decide +kernel
theorem dX6_digest_278 : decode cX6_digest 278 = .ok (.invokevirtual 133, 3) := by decide +kernel
theorem dX6_digest_281 : decode cX6_digest 281 = .ok (.i2l, 1) := by decide +kernel
theorem dX6_digest_282 : decode cX6_digest 282 = .ok (.ladd, 1) := by decide +kernel
theorem dX6_digest_283 : decode cX6_digest 283 = .ok (.lstore_n 1, 1) := by decide +kernel
theorem dX6_digest_284 : decode cX6_digest 284 = .ok (.iinc 6 1, 3) := by decide +kernel
theorem dX6_digest_287 : decode cX6_digest 287 = .ok (.goto (-41), 3) := by decide +kernel
theorem dX6_digest_290 : decode cX6_digest 290 = .ok (.aload_n 0, 1) := by decide +kernel
theorem dX6_digest_291 : decode cX6_digest 291 = .ok (.getfield 7, 3) := by decide +kernel
theorem dX6_digest_294 : decode cX6_digest 294 = .ok (.iload 5, 2) := by decide +kernel
theorem dX6_digest_296 : decode cX6_digest 296 = .ok (.invokestatic 74, 3) := by decide +kernel
theorem dX6_digest_299 : decode cX6_digest 299 = .ok (.ifCond .eq 19, 3) := by decide +kernel
theorem dX6_digest_302 : decode cX6_digest 302 = .ok (.ldc2_w 279, 3) := by decide +kernel
theorem dX6_digest_305 : decode cX6_digest 305 = .ok (.lload_n 1, 1) := by decide +kernel
theorem dX6_digest_306 : decode cX6_digest 306 = .ok (.lmul, 1) := by decide +kernel
theorem dX6_digest_307 : decode cX6_digest 307 = .ok (.aload_n 0, 1) := by decide +kernel
theorem dX6_digest_308 : decode cX6_digest 308 = .ok (.iload 5, 2) := by decide +kernel
theorem dX6_digest_310 : decode cX6_digest 310 = .ok (.invokevirtual 267, 3) := by decide +kernel
theorem dX6_digest_313 : decode cX6_digest 313 = .ok (.i2l, 1) := by decide +kernel
theorem dX6_digest_314 : decode cX6_digest 314 = .ok (.ladd, 1) := by decide +kernel
theorem dX6_digest_315 : decode cX6_digest 315 = .ok (.goto 4, 3) := by decide +kernel
theorem dX6_digest_318 : decode cX6_digest 318 = .ok (.lload_n 1, 1) := by decide +kernel
theorem dX6_digest_319 : decode cX6_digest 319 = .ok (.lstore_n 1, 1) := by decide +kernel
theorem dX6_digest_320 : decode cX6_digest 320 = .ok (.iinc 4 1, 3) := by decide +kernel
theorem dX6_digest_323 : decode cX6_digest 323 = .ok (.goto (-140), 3) := by decide +kernel
theorem dX6_digest_326 : decode cX6_digest 326 = .ok (.iinc 3 1, 3) := by decide +kernel
theorem dX6_digest_329 : decode cX6_digest 329 = .ok (.goto (-273), 3) := by decide +kernel
theorem dX6_digest_332 : decode cX6_digest 332 = .ok (.aload_n 0, 1) := by decide +kernel
theorem dX6_digest_333 : decode cX6_digest 333 = .ok (.aload_n 0, 1) := by decide +kernel
theorem dX6_digest_334 : decode cX6_digest 334 = .ok (.getfield 7, 3) := by decide +kernel
theorem dX6_digest_337 : decode cX6_digest 337 = .ok (.aload_n 0, 1) := by decide +kernel
theorem dX6_digest_338 : decode cX6_digest 338 = .ok (.getfield 7, 3) := by decide +kernel
theorem dX6_digest_341 : decode cX6_digest 341 = .ok (.iconst 1, 1) := by decide +kernel
theorem dX6_digest_342 : decode cX6_digest 342 = .ok (.iaload, 1) := by decide +kernel
theorem dX6_digest_343 : decode cX6_digest 343 = .ok (.invokevirtual 248, 3) := by decide +kernel
theorem dX6_digest_346 : decode cX6_digest 346 = .ok (.pop, 1) := by decide +kernel
theorem dX6_digest_347 : decode cX6_digest 347 = .ok (.iconst 0, 1) := by decide +kernel
theorem dX6_digest_348 : decode cX6_digest 348 = .ok (.istore_n 3, 1) := by decide +kernel
theorem dX6_digest_349 : decode cX6_digest 349 = .ok (.iload_n 3, 1) := by decide +kernel
theorem dX6_digest_350 : decode cX6_digest 350 = .ok (.aload_n 0, 1) := by decide +kernel
theorem dX6_digest_351 : decode cX6_digest 351 = .ok (.getfield 7, 3) := by decide +kernel
theorem dX6_digest_354 : decode cX6_digest 354 = .ok (.iconst 2, 1) := by decide +kernel
theorem dX6_digest_355 : decode cX6_digest 355 = .ok (.iaload, 1) := by decide +kernel
theorem dX6_digest_356 : decode cX6_digest 356 = .ok (.if_icmp .ge 23, 3) := by decide +kernel
theorem dX6_digest_359 : decode cX6_digest 359 = .ok (.ldc2_w 279, 3) := by decide +kernel
theorem dX6_digest_362 : decode cX6_digest 362 = .ok (.lload_n 1, 1) := by decide +kernel
theorem dX6_digest_363 : decode cX6_digest 363 = .ok (.lmul, 1) := by decide +kernel
theorem dX6_digest_364 : decode cX6_digest 364 = .ok (.aload_n 0, 1) := by decide +kernel
theorem dX6_digest_365 : decode cX6_digest 365 = .ok (.getfield 55, 3) := by decide +kernel
theorem dX6_digest_368 : decode cX6_digest 368 = .ok (.iload_n 3, 1) := by decide +kernel
theorem dX6_digest_369 : decode cX6_digest 369 = .ok (.iaload, 1) := by decide +kernel
theorem dX6_digest_370 : decode cX6_digest 370 = .ok (.i2l, 1) := by decide +kernel
theorem dX6_digest_371 : decode cX6_digest 371 = .ok (.ladd, 1) := by decide +kernel
theorem dX6_digest_372 : decode cX6_digest 372 = .ok (.lstore_n 1, 1) := by decide +kernel
theorem dX6_digest_373 : decode cX6_digest 373 = .ok (.iinc 3 1, 3) := by decide +kernel
theorem dX6_digest_376 : decode cX6_digest 376 = .ok (.goto (-27), 3) := by decide +kernel
theorem dX6_digest_379 : decode cX6_digest 379 = .ok (.iconst 0, 1) := by decide +kernel
theorem dX6_digest_380 : decode cX6_digest 380 = .ok (.istore_n 3, 1) := by decide +kernel
theorem dX6_digest_381 : decode cX6_digest 381 = .ok (.iload_n 3, 1) := by decide +kernel
theorem dX6_digest_382 : decode cX6_digest 382 = .ok (.iconst 3, 1) := by decide +kernel
theorem dX6_digest_383 : decode cX6_digest 383 = .ok (.if_icmp .ge 25, 3) := by decide +kernel
theorem dX6_digest_386 : decode cX6_digest 386 = .ok (.ldc2_w 279, 3) := by decide +kernel
theorem dX6_digest_389 : decode cX6_digest 389 = .ok (.lload_n 1, 1) := by decide +kernel
theorem dX6_digest_390 : decode cX6_digest 390 = .ok (.lmul, 1) := by decide +kernel
theorem dX6_digest_391 : decode cX6_digest 391 = .ok (.aload_n 0, 1) := by decide +kernel
theorem dX6_digest_392 : decode cX6_digest 392 = .ok (.iconst 0, 1) := by decide +kernel
theorem dX6_digest_393 : decode cX6_digest 393 = .ok (.bipush 77, 2) := by decide +kernel
theorem dX6_digest_395 : decode cX6_digest 395 = .ok (.iload_n 3, 1) := by decide +kernel
theorem dX6_digest_396 : decode cX6_digest 396 = .ok (.invokevirtual 264, 3) := by decide +kernel
theorem dX6_digest_399 : decode cX6_digest 399 = .ok (.i2l, 1) := by decide +kernel
theorem dX6_digest_400 : decode cX6_digest 400 = .ok (.ladd, 1) := by decide +kernel
theorem dX6_digest_401 : decode cX6_digest 401 = .ok (.lstore_n 1, 1) := by decide +kernel
theorem dX6_digest_402 : decode cX6_digest 402 = .ok (.iinc 3 1, 3) := by decide +kernel
theorem dX6_digest_405 : decode cX6_digest 405 = .ok (.goto (-24), 3) := by decide +kernel
theorem dX6_digest_408 : decode cX6_digest 408 = .ok (.ldc2_w 279, 3) := by decide +kernel
theorem dX6_digest_411 : decode cX6_digest 411 = .ok (.ldc2_w 279, 3) := by decide +kernel
theorem dX6_digest_414 : decode cX6_digest 414 = .ok (.lload_n 1, 1) := by decide +kernel
theorem dX6_digest_415 : decode cX6_digest 415 = .ok (.lmul, 1) := by decide +kernel
theorem dX6_digest_416 : decode cX6_digest 416 = .ok (.aload_n 0, 1) := by decide +kernel
theorem dX6_digest_417 : decode cX6_digest 417 = .ok (.iconst 1, 1) := by decide +kernel
theorem dX6_digest_418 : decode cX6_digest 418 = .ok (.invokevirtual 270, 3) := by decide +kernel
theorem dX6_digest_421 : decode cX6_digest 421 = .ok (.i2l, 1) := by decide +kernel
theorem dX6_digest_422 : decode cX6_digest 422 = .ok (.ladd, 1) := by decide +kernel
theorem dX6_digest_423 : decode cX6_digest 423 = .ok (.lmul, 1) := by decide +kernel
theorem dX6_digest_424 : decode cX6_digest 424 = .ok (.aload_n 0, 1) := by decide +kernel
theorem dX6_digest_425 : decode cX6_digest 425 = .ok (.iconst 2, 1) := by decide +kernel
theorem dX6_digest_426 : decode cX6_digest 426 = .ok (.invokevirtual 270, 3) := by decide +kernel
theorem dX6_digest_429 : decode cX6_digest 429 = .ok (.i2l, 1) := by decide +kernel
theorem dX6_digest_430 : decode cX6_digest 430 = .ok (.ladd, 1) := by decide +kernel
theorem dX6_digest_431 : decode cX6_digest 431 = .ok (.lstore_n 1, 1) := by decide +kernel
theorem dX6_digest_432 : decode cX6_digest 432 = .ok (.ldc2_w 279, 3) := by decide +kernel
theorem dX6_digest_435 : decode cX6_digest 435 = .ok (.ldc2_w 279, 3) := by decide +kernel
theorem dX6_digest_438 : decode cX6_digest 438 = .ok (.lload_n 1, 1) := by decide +kernel
theorem dX6_digest_439 : decode cX6_digest 439 = .ok (.lmul, 1) := by decide +kernel
theorem dX6_digest_440 : decode cX6_digest 440 = .ok (.aload_n 0, 1) := by decide +kernel
theorem dX6_digest_441 : decode cX6_digest 441 = .ok (.invokevirtual 273, 3) := by decide +kernel
theorem dX6_digest_444 : decode cX6_digest 444 = .ok (.invokestatic 281, 3) := by decide +kernel
theorem dX6_digest_447 : decode cX6_digest 447 = .ok (.ladd, 1) := by decide +kernel
theorem dX6_digest_448 : decode cX6_digest 448 = .ok (.lmul, 1) := by decide +kernel
theorem dX6_digest_449 : decode cX6_digest 449 = .ok (.aload_n 0, 1) := by decide +kernel
theorem dX6_digest_450 : decode cX6_digest 450 = .ok (.getfield 198, 3) := by decide +kernel
theorem dX6_digest_453 : decode cX6_digest 453 = .ok (.i2l, 1) := by decide +kernel
theorem dX6_digest_454 : decode cX6_digest 454 = .ok (.ladd, 1) := by decide +kernel
theorem dX6_digest_455 : decode cX6_digest 455 = .ok (.lstore_n 1, 1) := by decide +kernel
theorem dX6_digest_456 : decode cX6_digest 456 = .ok (.iconst 0, 1) := by decide +kernel
theorem dX6_digest_457 : decode cX6_digest 457 = .ok (.istore_n 3, 1) := by decide +kernel
theorem dX6_digest_458 : decode cX6_digest 458 = .ok (.iload_n 3, 1) := by decide +kernel
theorem dX6_digest_459 : decode cX6_digest 459 = .ok (.aload_n 0, 1) := by decide +kernel
theorem dX6_digest_460 : decode cX6_digest 460 = .ok (.getfield 198, 3) := by decide +kernel
theorem dX6_digest_463 : decode cX6_digest 463 = .ok (.if_icmp .ge 23, 3) := by decide +kernel
theorem dX6_digest_466 : decode cX6_digest 466 = .ok (.ldc2_w 279, 3) := by decide +kernel
theorem dX6_digest_469 : decode cX6_digest 469 = .ok (.lload_n 1, 1) := by decide +kernel
theorem dX6_digest_470 : decode cX6_digest 470 = .ok (.lmul, 1) := by decide +kernel
theorem dX6_digest_471 : decode cX6_digest 471 = .ok (.aload_n 0, 1) := by decide +kernel
theorem dX6_digest_472 : decode cX6_digest 472 = .ok (.getfield 19, 3) := by decide +kernel
theorem dX6_digest_475 : decode cX6_digest 475 = .ok (.iload_n 3, 1) := by decide +kernel
theorem dX6_digest_476 : decode cX6_digest 476 = .ok (.iaload, 1) := by decide +kernel
theorem dX6_digest_477 : decode cX6_digest 477 = .ok (.i2l, 1) := by decide +kernel
theorem dX6_digest_478 : decode cX6_digest 478 = .ok (.ladd, 1) := by decide +kernel
theorem dX6_digest_479 : decode cX6_digest 479 = .ok (.lstore_n 1, 1) := by decide +kernel
theorem dX6_digest_480 : decode cX6_digest 480 = .ok (.iinc 3 1, 3) := by decide +kernel
theorem dX6_digest_483 : decode cX6_digest 483 = .ok (.goto (-25), 3) := by decide +kernel
theorem dX6_digest_486 : decode cX6_digest 486 = .ok (.lload_n 1, 1) := by decide +kernel
theorem dX6_digest_487 : decode cX6_digest 487 = .ok (.lreturn, 1) := by decide +kernel
