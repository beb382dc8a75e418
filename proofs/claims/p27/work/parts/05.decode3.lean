theorem dL_areAlike_102 : decode cL_areAlike 102 = .ok (.goto (-46), 3) := by decide +kernel
theorem dL_areAlike_105 : decode cL_areAlike 105 = .ok (.iconst 0, 1) := by decide +kernel
theorem dL_areAlike_106 : decode cL_areAlike 106 = .ok (.istore_n 3, 1) := by decide +kernel
theorem dL_areAlike_107 : decode cL_areAlike 107 = .ok (.iload_n 3, 1) := by decide +kernel
theorem dL_areAlike_108 : decode cL_areAlike 108 = .ok (.bipush 48, 2) := by decide +kernel
theorem dL_areAlike_110 : decode cL_areAlike 110 = .ok (.if_icmp .ge 67, 3) := by decide +kernel
theorem dL_areAlike_113 : decode cL_areAlike 113 = .ok (.iload_n 2, 1) := by decide +kernel
theorem dL_areAlike_114 : decode cL_areAlike 114 = .ok (.ifCond .eq 55, 3) := by decide +kernel
theorem dL_areAlike_117 : decode cL_areAlike 117 = .ok (.aload_n 0, 1) := by decide +kernel
theorem dL_areAlike_118 : decode cL_areAlike 118 = .ok (.iload_n 3, 1) := by decide +kernel
theorem dL_areAlike_119 : decode cL_areAlike 119 = .ok (.bipush 12, 2) := by decide +kernel
theorem dL_areAlike_121 : decode cL_areAlike 121 = .ok (.idiv, 1) := by decide +kernel
theorem dL_areAlike_122 : decode cL_areAlike 122 = .ok (.iload_n 3, 1) := by decide +kernel
theorem dL_areAlike_123 : decode cL_areAlike 123 = .ok (.bipush 12, 2) := by decide +kernel
theorem dL_areAlike_125 : decode cL_areAlike 125 = .ok (.irem, 1) := by decide +kernel
theorem dL_areAlike_126 : decode cL_areAlike 126 = .ok (.invokevirtual 59, 3) := by decide +kernel
theorem dL_areAlike_129 : decode cL_areAlike 129 = .ok (.aload_n 1, 1) := by decide +kernel
theorem dL_areAlike_130 : decode cL_areAlike 130 = .ok (.iload_n 3, 1) := by decide +kernel
theorem dL_areAlike_131 : decode cL_areAlike 131 = .ok (.bipush 12, 2) := by decide +kernel
theorem dL_areAlike_133 : decode cL_areAlike 133 = .ok (.idiv, 1) := by decide +kernel
theorem dL_areAlike_134 : decode cL_areAlike 134 = .ok (.iload_n 3, 1) := by decide +kernel
theorem dL_areAlike_135 : decode cL_areAlike 135 = .ok (.bipush 12, 2) := by decide +kernel
theorem dL_areAlike_137 : decode cL_areAlike 137 = .ok (.irem, 1) := by decide +kernel
theorem dL_areAlike_138 : decode cL_areAlike 138 = .ok (.invokevirtual 59, 3) := by decide +kernel
theorem dL_areAlike_141 : decode cL_areAlike 141 = .ok (.if_icmp .ne 28, 3) := by decide +kernel
theorem dL_areAlike_144 : decode cL_areAlike 144 = .ok (.aload_n 0, 1) := by decide +kernel
theorem dL_areAlike_145 : decode cL_areAlike 145 = .ok (.iconst 1, 1) := by decide +kernel
theorem dL_areAlike_146 : decode cL_areAlike 146 = .ok (.iload_n 3, 1) := by decide +kernel
theorem dL_areAlike_147 : decode cL_areAlike 147 = .ok (.iconst 4, 1) := by decide +kernel
theorem dL_areAlike_148 : decode cL_areAlike 148 = .ok (.irem, 1) := by decide +kernel
theorem dL_areAlike_149 : decode cL_areAlike 149 = .ok (.iadd, 1) := by decide +kernel
theorem dL_areAlike_150 : decode cL_areAlike 150 = .ok (.invokevirtual 62, 3) := by decide +kernel
theorem dL_areAlike_153 : decode cL_areAlike 153 = .ok (.aload_n 1, 1) := by decide +kernel
theorem dL_areAlike_154 : decode cL_areAlike 154 = .ok (.iconst 1, 1) := by decide +kernel
theorem dL_areAlike_155 : decode cL_areAlike 155 = .ok (.iload_n 3, 1) := by decide +kernel
theorem dL_areAlike_156 : decode cL_areAlike 156 = .ok (.iconst 4, 1) := by decide +kernel
theorem dL_areAlike_157 : decode cL_areAlike 157 = .ok (.irem, 1) := by decide +kernel
theorem dL_areAlike_158 : decode cL_areAlike 158 = .ok (.iadd, 1) := by decide +kernel
theorem dL_areAlike_159 : decode cL_areAlike 159 = .ok (.invokevirtual 62, 3) := by decide +kernel
theorem dL_areAlike_162 : decode cL_areAlike 162 = .ok (.if_icmp .ne 7, 3) := by decide +kernel
theorem dL_areAlike_165 : decode cL_areAlike 165 = .ok (.iconst 1, 1) := by decide +kernel
theorem dL_areAlike_166 : decode cL_areAlike 166 = .ok (.goto 4, 3) := by decide +kernel
theorem dL_areAlike_169 : decode cL_areAlike 169 = .ok (.iconst 0, 1) := by decide +kernel
theorem dL_areAlike_170 : decode cL_areAlike 170 = .ok (.istore_n 2, 1) := by decide +kernel
theorem dL_areAlike_171 : decode cL_areAlike 171 = .ok (.iinc 3 1, 3) := by decide +kernel
theorem dL_areAlike_174 : decode cL_areAlike 174 = .ok (.goto (-67), 3) := by decide +kernel
theorem dL_areAlike_177 : decode cL_areAlike 177 = .ok (.iload_n 2, 1) := by decide +kernel
theorem dL_areAlike_178 : decode cL_areAlike 178 = .ok (.ireturn, 1) := by decide +kernel
theorem dL_areSums_0 : decode cL_areSums 0 = .ok (.iconst 0, 1) := by decide +kernel
theorem dL_areSums_1 : decode cL_areSums 1 = .ok (.istore_n 1, 1) := by decide +kernel
theorem dL_areSums_2 : decode cL_areSums 2 = .ok (.iconst 0, 1) := by decide +kernel
theorem dL_areSums_3 : decode cL_areSums 3 = .ok (.istore_n 2, 1) := by decide +kernel
theorem dL_areSums_4 : decode cL_areSums 4 = .ok (.iconst 0, 1) := by decide +kernel
theorem dL_areSums_5 : decode cL_areSums 5 = .ok (.istore_n 3, 1) := by decide +kernel
theorem dL_areSums_6 : decode cL_areSums 6 = .ok (.iconst 0, 1) := by decide +kernel
theorem dL_areSums_7 : decode cL_areSums 7 = .ok (.istore 4, 2) := by decide +kernel
theorem dL_areSums_9 : decode cL_areSums 9 = .ok (.iconst 0, 1) := by decide +kernel
theorem dL_areSums_10 : decode cL_areSums 10 = .ok (.istore 5, 2) := by decide +kernel
theorem dL_areSums_12 : decode cL_areSums 12 = .ok (.iconst 1, 1) := by decide +kernel
theorem dL_areSums_13 : decode cL_areSums 13 = .ok (.istore 6, 2) := by decide +kernel
theorem dL_areSums_15 : decode cL_areSums 15 = .ok (.iconst 0, 1) := by decide +kernel
theorem dL_areSums_16 : decode cL_areSums 16 = .ok (.istore 7, 2) := by decide +kernel
theorem dL_areSums_18 : decode cL_areSums 18 = .ok (.iload 7, 2) := by decide +kernel
theorem dL_areSums_20 : decode cL_areSums 20 = .ok (.bipush 12, 2) := by decide +kernel
theorem dL_areSums_22 : decode cL_areSums 22 = .ok (.if_icmp .ge 134, 3) := by decide +kernel
theorem dL_areSums_25 : decode cL_areSums 25 = .ok (.iconst 0, 1) := by decide +kernel
theorem dL_areSums_26 : decode cL_areSums 26 = .ok (.istore 8, 2) := by decide +kernel
theorem dL_areSums_28 : decode cL_areSums 28 = .ok (.iconst 0, 1) := by decide +kernel
theorem dL_areSums_29 : decode cL_areSums 29 = .ok (.istore 9, 2) := by decide +kernel
theorem dL_areSums_31 : decode cL_areSums 31 = .ok (.iconst 0, 1) := by decide +kernel
theorem dL_areSums_32 : decode cL_areSums 32 = .ok (.istore 10, 2) := by decide +kernel
theorem dL_areSums_34 : decode cL_areSums 34 = .ok (.iload 10, 2) := by decide +kernel
theorem dL_areSums_36 : decode cL_areSums 36 = .ok (.iconst 4, 1) := by decide +kernel
theorem dL_areSums_37 : decode cL_areSums 37 = .ok (.if_icmp .ge 92, 3) := by decide +kernel
theorem dL_areSums_40 : decode cL_areSums 40 = .ok (.aload_n 0, 1) := by decide +kernel
theorem dL_areSums_41 : decode cL_areSums 41 = .ok (.iload 10, 2) := by decide +kernel
theorem dL_areSums_43 : decode cL_areSums 43 = .ok (.iload 7, 2) := by decide +kernel
theorem dL_areSums_45 : decode cL_areSums 45 = .ok (.invokevirtual 59, 3) := by decide +kernel
theorem dL_areSums_48 : decode cL_areSums 48 = .ok (.istore 11, 2) := by decide +kernel
theorem dL_areSums_50 : decode cL_areSums 50 = .ok (.iload 6, 2) := by decide +kernel
theorem dL_areSums_52 : decode cL_areSums 52 = .ok (.ifCond .eq 35, 3) := by decide +kernel
theorem dL_areSums_55 : decode cL_areSums 55 = .ok (.iload 11, 2) := by decide +kernel
theorem dL_areSums_57 : decode cL_areSums 57 = .ok (.iconst (-1), 1) := by decide +kernel
theorem dL_areSums_58 : decode cL_areSums 58 = .ok (.if_icmp .lt 29, 3) := by decide +kernel
theorem dL_areSums_61 : decode cL_areSums 61 = .ok (.iload 11, 2) := by decide +kernel
theorem dL_areSums_63 : decode cL_areSums 63 = .ok (.bipush 10, 2) := by decide +kernel
theorem dL_areSums_65 : decode cL_areSums 65 = .ok (.if_icmp .ge 22, 3) := by decide +kernel
theorem dL_areSums_68 : decode cL_areSums 68 = .ok (.iload 11, 2) := by decide +kernel
theorem dL_areSums_70 : decode cL_areSums 70 = .ok (.ifCond .lt 13, 3) := by decide +kernel
theorem dL_areSums_73 : decode cL_areSums 73 = .ok (.iload 8, 2) := by decide +kernel
theorem dL_areSums_75 : decode cL_areSums 75 = .ok (.iload 11, 2) := by decide +kernel
theorem dL_areSums_77 : decode cL_areSums 77 = .ok (.ishr, 1) := by decide +kernel
theorem dL_areSums_78 : decode cL_areSums 78 = .ok (.iconst 1, 1) := by decide +kernel
theorem dL_areSums_79 : decode cL_areSums 79 = .ok (.iand, 1) := by decide +kernel
theorem dL_areSums_80 : decode cL_areSums 80 = .ok (.ifCond .ne 7, 3) := by decide +kernel
theorem dL_areSums_83 : decode cL_areSums 83 = .ok (.iconst 1, 1) := by decide +kernel
theorem dL_areSums_84 : decode cL_areSums 84 = .ok (.goto 4, 3) := by decide +kernel
theorem dL_areSums_87 : decode cL_areSums 87 = .ok (.iconst 0, 1) := by decide +kernel
theorem dL_areSums_88 : decode cL_areSums 88 = .ok (.istore 6, 2) := by decide +kernel
theorem dL_areSums_90 : decode cL_areSums 90 = .ok (.iload 8, 2) := by decide +kernel
theorem dL_areSums_92 : decode cL_areSums 92 = .ok (.iload 11, 2) := by decide +kernel
theorem dL_areSums_94 : decode cL_areSums 94 = .ok (.ifCond .ge 7, 3) := by decide +kernel
theorem dL_areSums_97 : decode cL_areSums 97 = .ok (.iconst 0, 1) := by decide +kernel
theorem dL_areSums_98 : decode cL_areSums 98 = .ok (.goto 7, 3) := by decide +kernel
theorem dL_areSums_101 : decode cL_areSums 101 = .ok (.iconst 1, 1) := by decide +kernel
theorem dL_areSums_102 : decode cL_areSums 102 = .ok (.iload 11, 2) := by decide +kernel
theorem dL_areSums_104 : decode cL_areSums 104 = .ok (.ishl, 1) := by decide +kernel
theorem dL_areSums_105 : decode cL_areSums 105 = .ok (.ior, 1) := by decide +kernel
theorem dL_areSums_106 : decode cL_areSums 106 = .ok (.istore 8, 2) := by decide +kernel
theorem dL_areSums_108 : decode cL_areSums 108 = .ok (.iload 9, 2) := by decide +kernel
theorem dL_areSums_110 : decode cL_areSums 110 = .ok (.iload 11, 2) := by decide +kernel
theorem dL_areSums_112 : decode cL_areSums 112 = .ok (.ifCond .ge 7, 3) := by decide +kernel
theorem dL_areSums_115 : decode cL_areSums 115 = .ok (.iconst 0, 1) := by decide +kernel
theorem dL_areSums_116 : decode cL_areSums 116 = .ok (.goto 4, 3) := by decide +kernel
theorem dL_areSums_119 : decode cL_areSums 119 = .ok (.iconst 1, 1) := by decide +kernel
theorem dL_areSums_120 : decode cL_areSums 120 = .ok (.iadd, 1) := by decide +kernel
theorem dL_areSums_121 : decode cL_areSums 121 = .ok (.istore 9, 2) := by decide +kernel
theorem dL_areSums_123 : decode cL_areSums 123 = .ok (.iinc 10 1, 3) := by decide +kernel
theorem dL_areSums_126 : decode cL_areSums 126 = .ok (.goto (-92), 3) := by decide +kernel
theorem dL_areSums_129 : decode cL_areSums 129 = .ok (.iload_n 1, 1) := by decide +kernel
theorem dL_areSums_130 : decode cL_areSums 130 = .ok (.iload 9, 2) := by decide +kernel
theorem dL_areSums_132 : decode cL_areSums 132 = .ok (.iadd, 1) := by decide +kernel
theorem dL_areSums_133 : decode cL_areSums 133 = .ok (.istore_n 1, 1) := by decide +kernel
theorem dL_areSums_134 : decode cL_areSums 134 = .ok (.iload 9, 2) := by decide +kernel
theorem dL_areSums_136 : decode cL_areSums 136 = .ok (.iload 5, 2) := by decide +kernel
theorem dL_areSums_138 : decode cL_areSums 138 = .ok (.if_icmp .le 8, 3) := by decide +kernel
theorem dL_areSums_141 : decode cL_areSums 141 = .ok (.iload 9, 2) := by decide +kernel
theorem dL_areSums_143 : decode cL_areSums 143 = .ok (.goto 5, 3) := by decide +kernel
theorem dL_areSums_146 : decode cL_areSums 146 = .ok (.iload 5, 2) := by decide +kernel
theorem dL_areSums_148 : decode cL_areSums 148 = .ok (.istore 5, 2) := by decide +kernel
theorem dL_areSums_150 : decode cL_areSums 150 = .ok (.iinc 7 1, 3) := by decide +kernel
theorem dL_areSums_153 : decode cL_areSums 153 = .ok (.goto (-135), 3) := by decide +kernel
theorem dL_areSums_156 : decode cL_areSums 156 = .ok (.iload_n 1, 1) := by decide +kernel
theorem dL_areSums_157 : decode cL_areSums 157 = .ok (.istore 7, 2) := by decide +kernel
theorem dL_areSums_159 : decode cL_areSums 159 = .ok (.iconst 0, 1) := by decide +kernel
theorem dL_areSums_160 : decode cL_areSums 160 = .ok (.istore 8, 2) := by decide +kernel
theorem dL_areSums_162 : decode cL_areSums 162 = .ok (.iconst 0, 1) := by decide +kernel
theorem dL_areSums_163 : decode cL_areSums 163 = .ok (.istore 9, 2) := by decide +kernel
theorem dL_areSums_165 : decode cL_areSums 165 = .ok (.iload 9, 2) := by decide +kernel
theorem dL_areSums_167 : decode cL_areSums 167 = .ok (.bipush 10, 2) := by decide +kernel
theorem dL_areSums_169 : decode cL_areSums 169 = .ok (.if_icmp .ge 189, 3) := by decide +kernel
theorem dL_areSums_172 : decode cL_areSums 172 = .ok (.iload 7, 2) := by decide +kernel
theorem dL_areSums_174 : decode cL_areSums 174 = .ok (.aload_n 0, 1) := by decide +kernel
theorem dL_areSums_175 : decode cL_areSums 175 = .ok (.iload 9, 2) := by decide +kernel
theorem dL_areSums_177 : decode cL_areSums 177 = .ok (.iconst 3, 1) := by decide +kernel
theorem dL_areSums_178 : decode cL_areSums 178 = .ok (.invokevirtual 56, 3) := by decide +kernel
theorem dL_areSums_181 : decode cL_areSums 181 = .ok (.isub, 1) := by decide +kernel
theorem dL_areSums_182 : decode cL_areSums 182 = .ok (.istore 7, 2) := by decide +kernel
theorem dL_areSums_184 : decode cL_areSums 184 = .ok (.iload_n 2, 1) := by decide +kernel
theorem dL_areSums_185 : decode cL_areSums 185 = .ok (.aload_n 0, 1) := by decide +kernel
theorem dL_areSums_186 : decode cL_areSums 186 = .ok (.iload 9, 2) := by decide +kernel
theorem dL_areSums_188 : decode cL_areSums 188 = .ok (.iconst 4, 1) := by decide +kernel
theorem dL_areSums_189 : decode cL_areSums 189 = .ok (.invokevirtual 56, 3) := by decide +kernel
theorem dL_areSums_192 : decode cL_areSums 192 = .ok (.iadd, 1) := by decide +kernel
theorem dL_areSums_193 : decode cL_areSums 193 = .ok (.istore_n 2, 1) := by decide +kernel
theorem dL_areSums_194 : decode cL_areSums 194 = .ok (.iload_n 3, 1) := by decide +kernel
theorem dL_areSums_195 : decode cL_areSums 195 = .ok (.aload_n 0, 1) := by decide +kernel
theorem dL_areSums_196 : decode cL_areSums 196 = .ok (.iload 9, 2) := by decide +kernel
theorem dL_areSums_198 : decode cL_areSums 198 = .ok (.iconst 5, 1) := by decide +kernel
theorem dL_areSums_199 : decode cL_areSums 199 = .ok (.invokevirtual 56, 3) := by decide +kernel
theorem dL_areSums_202 : decode cL_areSums 202 = .ok (.iadd, 1) := by decide +kernel
theorem dL_areSums_203 : decode cL_areSums 203 = .ok (.istore_n 3, 1) := by decide +kernel
theorem dL_areSums_204 : decode cL_areSums 204 = .ok (.iload 4, 2) := by decide +kernel
theorem dL_areSums_206 : decode cL_areSums 206 = .ok (.aload_n 0, 1) := by decide +kernel
theorem dL_areSums_207 : decode cL_areSums 207 = .ok (.iload 9, 2) := by decide +kernel
theorem dL_areSums_209 : decode cL_areSums 209 = .ok (.bipush 6, 2) := by decide +kernel
theorem dL_areSums_211 : decode cL_areSums 211 = .ok (.invokevirtual 56, 3) := by decide +kernel
theorem dL_areSums_214 : decode cL_areSums 214 = .ok (.iadd, 1) := by decide +kernel
theorem dL_areSums_215 : decode cL_areSums 215 = .ok (.istore 4, 2) := by decide +kernel
theorem dL_areSums_217 : decode cL_areSums 217 = .ok (.iload 6, 2) := by decide +kernel
theorem dL_areSums_219 : decode cL_areSums 219 = .ok (.ifCond .eq 72, 3) := by decide +kernel
theorem dL_areSums_222 : decode cL_areSums 222 = .ok (.aload_n 0, 1) := by decide +kernel
theorem dL_areSums_223 : decode cL_areSums 223 = .ok (.iload 9, 2) := by decide +kernel
theorem dL_areSums_225 : decode cL_areSums 225 = .ok (.iconst 0, 1) := by decide +kernel
theorem dL_areSums_226 : decode cL_areSums 226 = .ok (.invokevirtual 56, 3) := by decide +kernel
theorem dL_areSums_229 : decode cL_areSums 229 = .ok (.ifCond .lt 62, 3) := by decide +kernel
theorem dL_areSums_232 : decode cL_areSums 232 = .ok (.aload_n 0, 1) := by decide +kernel
theorem dL_areSums_233 : decode cL_areSums 233 = .ok (.iload 9, 2) := by decide +kernel
theorem dL_areSums_235 : decode cL_areSums 235 = .ok (.iconst 0, 1) := by decide +kernel
theorem dL_areSums_236 : decode cL_areSums 236 = .ok (.invokevirtual 56, 3) := by decide +kernel
theorem dL_areSums_239 : decode cL_areSums 239 = .ok (.bipush 10, 2) := by decide +kernel
theorem dL_areSums_241 : decode cL_areSums 241 = .ok (.if_icmp .ge 50, 3) := by decide +kernel
theorem dL_areSums_244 : decode cL_areSums 244 = .ok (.aload_n 0, 1) := by decide +kernel
theorem dL_areSums_245 : decode cL_areSums 245 = .ok (.iload 9, 2) := by decide +kernel
theorem dL_areSums_247 : decode cL_areSums 247 = .ok (.iconst 1, 1) := by decide +kernel
theorem dL_areSums_248 : decode cL_areSums 248 = .ok (.invokevirtual 56, 3) := by decide +kernel
theorem dL_areSums_251 : decode cL_areSums 251 = .ok (.ifCond .lt 40, 3) := by decide +kernel
theorem dL_areSums_254 : decode cL_areSums 254 = .ok (.aload_n 0, 1) := by decide +kernel
theorem dL_areSums_255 : decode cL_areSums 255 = .ok (.iload 9, 2) := by decide +kernel
theorem dL_areSums_257 : decode cL_areSums 257 = .ok (.iconst 1, 1) := by decide +kernel
theorem dL_areSums_258 : decode cL_areSums 258 = .ok (.invokevirtual 56, 3) := by decide +kernel
theorem dL_areSums_261 : decode cL_areSums 261 = .ok (.bipush 8, 2) := by decide +kernel
theorem dL_areSums_263 : decode cL_areSums 263 = .ok (.if_icmp .ge 28, 3) := by decide +kernel
theorem dL_areSums_266 : decode cL_areSums 266 = .ok (.aload_n 0, 1) := by decide +kernel
theorem dL_areSums_267 : decode cL_areSums 267 = .ok (.iload 9, 2) := by decide +kernel
theorem dL_areSums_269 : decode cL_areSums 269 = .ok (.iconst 2, 1) := by decide +kernel
theorem dL_areSums_270 : decode cL_areSums 270 = .ok (.invokevirtual 56, 3) := by decide +kernel
theorem dL_areSums_273 : decode cL_areSums 273 = .ok (.ifCond .lt 18, 3) := by decide +kernel
theorem dL_areSums_276 : decode cL_areSums 276 = .ok (.aload_n 0, 1) := by decide +kernel
theorem dL_areSums_277 : decode cL_areSums 277 = .ok (.iload 9, 2) := by decide +kernel
theorem dL_areSums_279 : decode cL_areSums 279 = .ok (.iconst 2, 1) := by decide +kernel
theorem dL_areSums_280 : decode cL_areSums 280 = .ok (.invokevirtual 56, 3) := by decide +kernel
theorem dL_areSums_283 : decode cL_areSums 283 = .ok (.iconst 4, 1) := by decide +kernel
theorem dL_areSums_284 : decode cL_areSums 284 = .ok (.if_icmp .ge 7, 3) := by decide +kernel
theorem dL_areSums_287 : decode cL_areSums 287 = .ok (.iconst 1, 1) := by decide +kernel
theorem dL_areSums_288 : decode cL_areSums 288 = .ok (.goto 4, 3) := by decide +kernel
theorem dL_areSums_291 : decode cL_areSums 291 = .ok (.iconst 0, 1) := by decide +kernel
theorem dL_areSums_292 : decode cL_areSums 292 = .ok (.istore 6, 2) := by decide +kernel
theorem dL_areSums_294 : decode cL_areSums 294 = .ok (.aload_n 0, 1) := by decide +kernel
theorem dL_areSums_295 : decode cL_areSums 295 = .ok (.iload 9, 2) := by decide +kernel
theorem dL_areSums_297 : decode cL_areSums 297 = .ok (.iconst 1, 1) := by decide +kernel
theorem dL_areSums_298 : decode cL_areSums 298 = .ok (.invokevirtual 56, 3) := by decide +kernel
theorem dL_areSums_301 : decode cL_areSums 301 = .ok (.aload_n 0, 1) := by decide +kernel
theorem dL_areSums_302 : decode cL_areSums 302 = .ok (.iload 8, 2) := by decide +kernel
theorem dL_areSums_304 : decode cL_areSums 304 = .ok (.iconst 1, 1) := by decide +kernel
theorem dL_areSums_305 : decode cL_areSums 305 = .ok (.invokevirtual 56, 3) := by decide +kernel
theorem dL_areSums_308 : decode cL_areSums 308 = .ok (.isub, 1) := by decide +kernel
theorem dL_areSums_309 : decode cL_areSums 309 = .ok (.istore 10, 2) := by decide +kernel
theorem dL_areSums_311 : decode cL_areSums 311 = .ok (.iload 10, 2) := by decide +kernel
theorem dL_areSums_313 : decode cL_areSums 313 = .ok (.ifCond .ne 21, 3) := by decide +kernel
theorem dL_areSums_316 : decode cL_areSums 316 = .ok (.aload_n 0, 1) := by decide +kernel
theorem dL_areSums_317 : decode cL_areSums 317 = .ok (.iload 9, 2) := by decide +kernel
theorem dL_areSums_319 : decode cL_areSums 319 = .ok (.iconst 0, 1) := by decide +kernel
theorem dL_areSums_320 : decode cL_areSums 320 = .ok (.invokevirtual 56, 3) := by decide +kernel
theorem dL_areSums_323 : decode cL_areSums 323 = .ok (.aload_n 0, 1) := by decide +kernel
theorem dL_areSums_324 : decode cL_areSums 324 = .ok (.iload 8, 2) := by decide +kernel
theorem dL_areSums_326 : decode cL_areSums 326 = .ok (.iconst 0, 1) := by decide +kernel
theorem dL_areSums_327 : decode cL_areSums 327 = .ok (.invokevirtual 56, 3) := by decide +kernel
theorem dL_areSums_330 : decode cL_areSums 330 = .ok (.isub, 1) := by decide +kernel
theorem dL_areSums_331 : decode cL_areSums 331 = .ok (.goto 5, 3) := by decide +kernel
theorem dL_areSums_334 : decode cL_areSums 334 = .ok (.iload 10, 2) := by decide +kernel
theorem dL_areSums_336 : decode cL_areSums 336 = .ok (.istore 10, 2) := by decide +kernel
theorem dL_areSums_338 : decode cL_areSums 338 = .ok (.iload 10, 2) := by decide +kernel
theorem dL_areSums_340 : decode cL_areSums 340 = .ok (.ifCond .le 8, 3) := by decide +kernel
theorem dL_areSums_343 : decode cL_areSums 343 = .ok (.iload 9, 2) := by decide +kernel
theorem dL_areSums_345 : decode cL_areSums 345 = .ok (.goto 5, 3) := by decide +kernel
theorem dL_areSums_348 : decode cL_areSums 348 = .ok (.iload 8, 2) := by decide +kernel
theorem dL_areSums_350 : decode cL_areSums 350 = .ok (.istore 8, 2) := by decide +kernel
theorem dL_areSums_352 : decode cL_areSums 352 = .ok (.iinc 9 1, 3) := by decide +kernel
theorem dL_areSums_355 : decode cL_areSums 355 = .ok (.goto (-190), 3) := by decide +kernel
theorem dL_areSums_358 : decode cL_areSums 358 = .ok (.iload_n 1, 1) := by decide +kernel
theorem dL_areSums_359 : decode cL_areSums 359 = .ok (.i2d, 1) := by decide +kernel
theorem dL_areSums_360 : decode cL_areSums 360 = .ok (.ldc2_w 65, 3) := by decide +kernel
theorem dL_areSums_363 : decode cL_areSums 363 = .ok (.ddiv, 1) := by decide +kernel
theorem dL_areSums_364 : decode cL_areSums 364 = .ok (.dstore 9, 2) := by decide +kernel
theorem dL_areSums_366 : decode cL_areSums 366 = .ok (.iload 6, 2) := by decide +kernel
theorem dL_areSums_368 : decode cL_areSums 368 = .ok (.ifCond .eq 145, 3) := by decide +kernel
theorem dL_areSums_371 : decode cL_areSums 371 = .ok (.iload 7, 2) := by decide +kernel
theorem dL_areSums_373 : decode cL_areSums 373 = .ok (.ifCond .ne 140, 3) := by decide +kernel
theorem dL_areSums_376 : decode cL_areSums 376 = .ok (.iload_n 1, 1) := by decide +kernel
theorem dL_areSums_377 : decode cL_areSums 377 = .ok (.aload_n 0, 1) := by decide +kernel
theorem dL_areSums_378 : decode cL_areSums 378 = .ok (.iconst 2, 1) := by decide +kernel
theorem dL_areSums_379 : decode cL_areSums 379 = .ok (.invokevirtual 53, 3) := by decide +kernel
theorem dL_areSums_382 : decode cL_areSums 382 = .ok (.if_icmp .ne 131, 3) := by decide +kernel
theorem dL_areSums_385 : decode cL_areSums 385 = .ok (.iload_n 2, 1) := by decide +kernel
theorem dL_areSums_386 : decode cL_areSums 386 = .ok (.aload_n 0, 1) := by decide +kernel
theorem dL_areSums_387 : decode cL_areSums 387 = .ok (.iconst 3, 1) := by decide +kernel
theorem dL_areSums_388 : decode cL_areSums 388 = .ok (.invokevirtual 53, 3) := by decide +kernel
theorem dL_areSums_391 : decode cL_areSums 391 = .ok (.if_icmp .ne 122, 3) := by decide +kernel
theorem dL_areSums_394 : decode cL_areSums 394 = .ok (.iload_n 3, 1) := by decide +kernel
theorem dL_areSums_395 : decode cL_areSums 395 = .ok (.aload_n 0, 1) := by decide +kernel
theorem dL_areSums_396 : decode cL_areSums 396 = .ok (.bipush 6, 2) := by decide +kernel
theorem dL_areSums_398 : decode cL_areSums 398 = .ok (.invokevirtual 53, 3) := by decide +kernel
theorem dL_areSums_401 : decode cL_areSums 401 = .ok (.if_icmp .ne 112, 3) := by decide +kernel
theorem dL_areSums_404 : decode cL_areSums 404 = .ok (.iload 4, 2) := by decide +kernel
theorem dL_areSums_406 : decode cL_areSums 406 = .ok (.aload_n 0, 1) := by decide +kernel
theorem dL_areSums_407 : decode cL_areSums 407 = .ok (.iconst 4, 1) := by decide +kernel
theorem dL_areSums_408 : decode cL_areSums 408 = .ok (.invokevirtual 53, 3) := by decide +kernel
theorem dL_areSums_411 : decode cL_areSums 411 = .ok (.if_icmp .gt 102, 3) := by decide +kernel
theorem dL_areSums_414 : decode cL_areSums 414 = .ok (.aload_n 0, 1) := by decide +kernel
theorem dL_areSums_415 : decode cL_areSums 415 = .ok (.bipush 7, 2) := by decide +kernel
theorem dL_areSums_417 : decode cL_areSums 417 = .ok (.invokevirtual 53, 3) := by decide +kernel
theorem dL_areSums_420 : decode cL_areSums 420 = .ok (.aload_n 0, 1) := by decide +kernel
theorem dL_areSums_421 : decode cL_areSums 421 = .ok (.bipush 6, 2) := by decide +kernel
theorem dL_areSums_423 : decode cL_areSums 423 = .ok (.invokevirtual 53, 3) := by decide +kernel
theorem dL_areSums_426 : decode cL_areSums 426 = .ok (.if_icmp .lt 87, 3) := by decide +kernel
theorem dL_areSums_429 : decode cL_areSums 429 = .ok (.aload_n 0, 1) := by decide +kernel
theorem dL_areSums_430 : decode cL_areSums 430 = .ok (.iconst 5, 1) := by decide +kernel
theorem dL_areSums_431 : decode cL_areSums 431 = .ok (.invokevirtual 53, 3) := by decide +kernel
theorem dL_areSums_434 : decode cL_areSums 434 = .ok (.aload_n 0, 1) := by decide +kernel
theorem dL_areSums_435 : decode cL_areSums 435 = .ok (.iconst 1, 1) := by decide +kernel
theorem dL_areSums_436 : decode cL_areSums 436 = .ok (.invokevirtual 62, 3) := by decide +kernel
theorem dL_areSums_439 : decode cL_areSums 439 = .ok (.aload_n 0, 1) := by decide +kernel
theorem dL_areSums_440 : decode cL_areSums 440 = .ok (.iconst 2, 1) := by decide +kernel
theorem dL_areSums_441 : decode cL_areSums 441 = .ok (.invokevirtual 62, 3) := by decide +kernel
theorem dL_areSums_444 : decode cL_areSums 444 = .ok (.iadd, 1) := by decide +kernel
theorem dL_areSums_445 : decode cL_areSums 445 = .ok (.aload_n 0, 1) := by decide +kernel
theorem dL_areSums_446 : decode cL_areSums 446 = .ok (.iconst 3, 1) := by decide +kernel
theorem dL_areSums_447 : decode cL_areSums 447 = .ok (.invokevirtual 62, 3) := by decide +kernel
theorem dL_areSums_450 : decode cL_areSums 450 = .ok (.iadd, 1) := by decide +kernel
theorem dL_areSums_451 : decode cL_areSums 451 = .ok (.aload_n 0, 1) := by decide +kernel
theorem dL_areSums_452 : decode cL_areSums 452 = .ok (.iconst 4, 1) := by decide +kernel
theorem dL_areSums_453 : decode cL_areSums 453 = .ok (.invokevirtual 62, 3) := by decide +kernel
theorem dL_areSums_456 : decode cL_areSums 456 = .ok (.iadd, 1) := by decide +kernel
theorem dL_areSums_457 : decode cL_areSums 457 = .ok (.if_icmp .ne 56, 3) := by decide +kernel
theorem dL_areSums_460 : decode cL_areSums 460 = .ok (.aload_n 0, 1) := by decide +kernel
theorem dL_areSums_461 : decode cL_areSums 461 = .ok (.iconst 0, 1) := by decide +kernel
theorem dL_areSums_462 : decode cL_areSums 462 = .ok (.invokevirtual 67, 3) := by decide +kernel
theorem dL_areSums_465 : decode cL_areSums 465 = .ok (.iload 5, 2) := by decide +kernel
theorem dL_areSums_467 : decode cL_areSums 467 = .ok (.if_icmp .ne 46, 3) := by decide +kernel
theorem dL_areSums_470 : decode cL_areSums 470 = .ok (.aload_n 0, 1) := by decide +kernel
theorem dL_areSums_471 : decode cL_areSums 471 = .ok (.iconst 1, 1) := by decide +kernel
theorem dL_areSums_472 : decode cL_areSums 472 = .ok (.invokevirtual 67, 3) := by decide +kernel
theorem dL_areSums_475 : decode cL_areSums 475 = .ok (.iload 5, 2) := by decide +kernel
theorem dL_areSums_477 : decode cL_areSums 477 = .ok (.if_icmp .ne 36, 3) := by decide +kernel
theorem dL_areSums_480 : decode cL_areSums 480 = .ok (.aload_n 0, 1) := by decide +kernel
theorem dL_areSums_481 : decode cL_areSums 481 = .ok (.invokevirtual 50, 3) := by decide +kernel
theorem dL_areSums_484 : decode cL_areSums 484 = .ok (.iload 8, 2) := by decide +kernel
theorem dL_areSums_486 : decode cL_areSums 486 = .ok (.if_icmp .ne 27, 3) := by decide +kernel
theorem dL_areSums_489 : decode cL_areSums 489 = .ok (.aload_n 0, 1) := by decide +kernel
theorem dL_areSums_490 : decode cL_areSums 490 = .ok (.invokevirtual 70, 3) := by decide +kernel
theorem dL_areSums_493 : decode cL_areSums 493 = .ok (.dload 9, 2) := by decide +kernel
theorem dL_areSums_495 : decode cL_areSums 495 = .ok (.dcmp .l, 1) := by decide +kernel
theorem dL_areSums_496 : decode cL_areSums 496 = .ok (.ifCond .ne 17, 3) := by decide +kernel
theorem dL_areSums_499 : decode cL_areSums 499 = .ok (.aload_n 0, 1) := by decide +kernel
theorem dL_areSums_500 : decode cL_areSums 500 = .ok (.iconst 0, 1) := by decide +kernel
theorem dL_areSums_501 : decode cL_areSums 501 = .ok (.invokevirtual 53, 3) := by decide +kernel
theorem dL_areSums_504 : decode cL_areSums 504 = .ok (.bipush 12, 2) := by decide +kernel
theorem dL_areSums_506 : decode cL_areSums 506 = .ok (.if_icmp .ge 7, 3) := by decide +kernel
theorem dL_areSums_509 : decode cL_areSums 509 = .ok (.iconst 1, 1) := by decide +kernel
theorem dL_areSums_510 : decode cL_areSums 510 = .ok (.goto 4, 3) := by decide +kernel
theorem dL_areSums_513 : decode cL_areSums 513 = .ok (.iconst 0, 1) := by decide +kernel
theorem dL_areSums_514 : decode cL_areSums 514 = .ok (.ireturn, 1) := by decide +kernel
theorem dL_isFree_0 : decode cL_isFree 0 = .ok (.iconst 1, 1) := by decide +kernel
theorem dL_isFree_1 : decode cL_isFree 1 = .ok (.istore 4, 2) := by decide +kernel
theorem dL_isFree_3 : decode cL_isFree 3 = .ok (.iload_n 2, 1) := by decide +kernel
theorem dL_isFree_4 : decode cL_isFree 4 = .ok (.istore 5, 2) := by decide +kernel
theorem dL_isFree_6 : decode cL_isFree 6 = .ok (.iload 5, 2) := by decide +kernel
theorem dL_isFree_8 : decode cL_isFree 8 = .ok (.iload_n 2, 1) := by decide +kernel
theorem dL_isFree_9 : decode cL_isFree 9 = .ok (.iload_n 3, 1) := by decide +kernel
theorem dL_isFree_10 : decode cL_isFree 10 = .ok (.iadd, 1) := by decide +kernel
theorem dL_isFree_11 : decode cL_isFree 11 = .ok (.if_icmp .ge 32, 3) := by decide +kernel
theorem dL_isFree_14 : decode cL_isFree 14 = .ok (.iload 4, 2) := by decide +kernel
theorem dL_isFree_16 : decode cL_isFree 16 = .ok (.ifCond .eq 18, 3) := by decide +kernel
theorem dL_isFree_19 : decode cL_isFree 19 = .ok (.aload_n 0, 1) := by decide +kernel
theorem dL_isFree_20 : decode cL_isFree 20 = .ok (.iload_n 1, 1) := by decide +kernel
theorem dL_isFree_21 : decode cL_isFree 21 = .ok (.iload 5, 2) := by decide +kernel
theorem dL_isFree_23 : decode cL_isFree 23 = .ok (.invokevirtual 59, 3) := by decide +kernel
theorem dL_isFree_26 : decode cL_isFree 26 = .ok (.iconst (-1), 1) := by decide +kernel
theorem dL_isFree_27 : decode cL_isFree 27 = .ok (.if_icmp .ne 7, 3) := by decide +kernel
theorem dL_isFree_30 : decode cL_isFree 30 = .ok (.iconst 1, 1) := by decide +kernel
theorem dL_isFree_31 : decode cL_isFree 31 = .ok (.goto 4, 3) := by decide +kernel
theorem dL_isFree_34 : decode cL_isFree 34 = .ok (.iconst 0, 1) := by decide +kernel
theorem dL_isFree_35 : decode cL_isFree 35 = .ok (.istore 4, 2) := by decide +kernel
theorem dL_isFree_37 : decode cL_isFree 37 = .ok (.iinc 5 1, 3) := by decide +kernel
theorem dL_isFree_40 : decode cL_isFree 40 = .ok (.goto (-34), 3) := by decide +kernel
theorem dL_isFree_43 : decode cL_isFree 43 = .ok (.iload 4, 2) := by decide +kernel
theorem dL_isFree_45 : decode cL_isFree 45 = .ok (.ireturn, 1) := by decide +kernel
theorem dL_has_0 : decode cL_has 0 = .ok (.iconst 0, 1) := by decide +kernel
theorem dL_has_1 : decode cL_has 1 = .ok (.istore 4, 2) := by decide +kernel
theorem dL_has_3 : decode cL_has 3 = .ok (.iconst 0, 1) := by decide +kernel
theorem dL_has_4 : decode cL_has 4 = .ok (.istore 5, 2) := by decide +kernel
theorem dL_has_6 : decode cL_has 6 = .ok (.iload 5, 2) := by decide +kernel
theorem dL_has_8 : decode cL_has 8 = .ok (.iconst 4, 1) := by decide +kernel
theorem dL_has_9 : decode cL_has 9 = .ok (.iload_n 3, 1) := by decide +kernel
theorem dL_has_10 : decode cL_has 10 = .ok (.imul, 1) := by decide +kernel
theorem dL_has_11 : decode cL_has 11 = .ok (.if_icmp .ge 39, 3) := by decide +kernel
theorem dL_has_14 : decode cL_has 14 = .ok (.iload 4, 2) := by decide +kernel
theorem dL_has_16 : decode cL_has 16 = .ok (.ifCond .ne 21, 3) := by decide +kernel
theorem dL_has_19 : decode cL_has 19 = .ok (.aload_n 0, 1) := by decide +kernel
theorem dL_has_20 : decode cL_has 20 = .ok (.iload 5, 2) := by decide +kernel
theorem dL_has_22 : decode cL_has 22 = .ok (.iload_n 3, 1) := by decide +kernel
theorem dL_has_23 : decode cL_has 23 = .ok (.idiv, 1) := by decide +kernel
theorem dL_has_24 : decode cL_has 24 = .ok (.iload_n 2, 1) := by decide +kernel
theorem dL_has_25 : decode cL_has 25 = .ok (.iload 5, 2) := by decide +kernel
theorem dL_has_27 : decode cL_has 27 = .ok (.iload_n 3, 1) := by decide +kernel
theorem dL_has_28 : decode cL_has 28 = .ok (.irem, 1) := by decide +kernel
theorem dL_has_29 : decode cL_has 29 = .ok (.iadd, 1) := by decide +kernel
theorem dL_has_30 : decode cL_has 30 = .ok (.invokevirtual 59, 3) := by decide +kernel
theorem dL_has_33 : decode cL_has 33 = .ok (.iload_n 1, 1) := by decide +kernel
theorem dL_has_34 : decode cL_has 34 = .ok (.if_icmp .ne 7, 3) := by decide +kernel
theorem dL_has_37 : decode cL_has 37 = .ok (.iconst 1, 1) := by decide +kernel
theorem dL_has_38 : decode cL_has 38 = .ok (.goto 4, 3) := by decide +kernel
theorem dL_has_41 : decode cL_has 41 = .ok (.iconst 0, 1) := by decide +kernel
theorem dL_has_42 : decode cL_has 42 = .ok (.istore 4, 2) := by decide +kernel
theorem dL_has_44 : decode cL_has 44 = .ok (.iinc 5 1, 3) := by decide +kernel
theorem dL_has_47 : decode cL_has 47 = .ok (.goto (-41), 3) := by decide +kernel
theorem dL_has_50 : decode cL_has 50 = .ok (.iload 4, 2) := by decide +kernel
theorem dL_has_52 : decode cL_has 52 = .ok (.ireturn, 1) := by decide +kernel
theorem dL_isAskingSo_0 : decode cL_isAskingSo 0 = .ok (.iconst (-1), 1) := by decide +kernel
theorem dL_isAskingSo_1 : decode cL_isAskingSo 1 = .ok (.istore 4, 2) := by decide +kernel
theorem dL_isAskingSo_3 : decode cL_isAskingSo 3 = .ok (.iconst 3, 1) := by decide +kernel
theorem dL_isAskingSo_4 : decode cL_isAskingSo 4 = .ok (.istore 5, 2) := by decide +kernel
theorem dL_isAskingSo_6 : decode cL_isAskingSo 6 = .ok (.iload 5, 2) := by decide +kernel
theorem dL_isAskingSo_8 : decode cL_isAskingSo 8 = .ok (.ifCond .lt 29, 3) := by decide +kernel
theorem dL_isAskingSo_11 : decode cL_isAskingSo 11 = .ok (.aload_n 0, 1) := by decide +kernel
theorem dL_isAskingSo_12 : decode cL_isAskingSo 12 = .ok (.iload 5, 2) := by decide +kernel
theorem dL_isAskingSo_14 : decode cL_isAskingSo 14 = .ok (.iload_n 2, 1) := by decide +kernel
theorem dL_isAskingSo_15 : decode cL_isAskingSo 15 = .ok (.iload_n 3, 1) := by decide +kernel
theorem dL_isAskingSo_16 : decode cL_isAskingSo 16 = .ok (.invokestatic 74, 3) := by decide +kernel
theorem dL_isAskingSo_19 : decode cL_isAskingSo 19 = .ok (.ifCond .eq 8, 3) := by decide +kernel
theorem dL_isAskingSo_22 : decode cL_isAskingSo 22 = .ok (.iload 5, 2) := by decide +kernel
theorem dL_isAskingSo_24 : decode cL_isAskingSo 24 = .ok (.goto 5, 3) := by decide +kernel
theorem dL_isAskingSo_27 : decode cL_isAskingSo 27 = .ok (.iload 4, 2) := by decide +kernel
theorem dL_isAskingSo_29 : decode cL_isAskingSo 29 = .ok (.istore 4, 2) := by decide +kernel
theorem dL_isAskingSo_31 : decode cL_isAskingSo 31 = .ok (.iinc 5 (-1), 3) := by decide +kernel
theorem dL_isAskingSo_34 : decode cL_isAskingSo 34 = .ok (.goto (-28), 3) := by decide +kernel
theorem dL_isAskingSo_37 : decode cL_isAskingSo 37 = .ok (.aload_n 0, 1) := by decide +kernel
theorem dL_isAskingSo_38 : decode cL_isAskingSo 38 = .ok (.iload_n 1, 1) := by decide +kernel
theorem dL_isAskingSo_39 : decode cL_isAskingSo 39 = .ok (.iconst 1, 1) := by decide +kernel
theorem dL_isAskingSo_40 : decode cL_isAskingSo 40 = .ok (.invokevirtual 56, 3) := by decide +kernel
theorem dL_isAskingSo_43 : decode cL_isAskingSo 43 = .ok (.bipush 7, 2) := by decide +kernel
theorem dL_isAskingSo_45 : decode cL_isAskingSo 45 = .ok (.if_icmp .ne 7, 3) := by decide +kernel
theorem dL_isAskingSo_48 : decode cL_isAskingSo 48 = .ok (.iconst 1, 1) := by decide +kernel
theorem dL_isAskingSo_49 : decode cL_isAskingSo 49 = .ok (.goto 4, 3) := by decide +kernel
theorem dL_isAskingSo_52 : decode cL_isAskingSo 52 = .ok (.iconst 0, 1) := by decide +kernel
theorem dL_isAskingSo_53 : decode cL_isAskingSo 53 = .ok (.istore 5, 2) := by decide +kernel
theorem dL_isAskingSo_55 : decode cL_isAskingSo 55 = .ok (.aload_n 0, 1) := by decide +kernel
theorem dL_isAskingSo_56 : decode cL_isAskingSo 56 = .ok (.iload_n 1, 1) := by decide +kernel
theorem dL_isAskingSo_57 : decode cL_isAskingSo 57 = .ok (.iconst 0, 1) := by decide +kernel
theorem dL_isAskingSo_58 : decode cL_isAskingSo 58 = .ok (.invokevirtual 56, 3) := by decide +kernel
theorem dL_isAskingSo_61 : decode cL_isAskingSo 61 = .ok (.aload_n 0, 1) := by decide +kernel
theorem dL_isAskingSo_62 : decode cL_isAskingSo 62 = .ok (.bipush 9, 2) := by decide +kernel
theorem dL_isAskingSo_64 : decode cL_isAskingSo 64 = .ok (.invokevirtual 53, 3) := by decide +kernel
theorem dL_isAskingSo_67 : decode cL_isAskingSo 67 = .ok (.if_icmp .lt 7, 3) := by decide +kernel
theorem dL_isAskingSo_70 : decode cL_isAskingSo 70 = .ok (.iconst 1, 1) := by decide +kernel
theorem dL_isAskingSo_71 : decode cL_isAskingSo 71 = .ok (.goto 4, 3) := by decide +kernel
theorem dL_isAskingSo_74 : decode cL_isAskingSo 74 = .ok (.iconst 0, 1) := by decide +kernel
theorem dL_isAskingSo_75 : decode cL_isAskingSo 75 = .ok (.istore 6, 2) := by decide +kernel
theorem dL_isAskingSo_77 : decode cL_isAskingSo 77 = .ok (.iload_n 2, 1) := by decide +kernel
theorem dL_isAskingSo_78 : decode cL_isAskingSo 78 = .ok (.aload_n 0, 1) := by decide +kernel
theorem dL_isAskingSo_79 : decode cL_isAskingSo 79 = .ok (.iconst 0, 1) := by decide +kernel
theorem dL_isAskingSo_80 : decode cL_isAskingSo 80 = .ok (.invokevirtual 53, 3) := by decide +kernel
theorem dL_isAskingSo_83 : decode cL_isAskingSo 83 = .ok (.if_icmp .ge 7, 3) := by decide +kernel
theorem dL_isAskingSo_86 : decode cL_isAskingSo 86 = .ok (.iconst 1, 1) := by decide +kernel
theorem dL_isAskingSo_87 : decode cL_isAskingSo 87 = .ok (.goto 54, 3) := by decide +kernel
theorem dL_isAskingSo_90 : decode cL_isAskingSo 90 = .ok (.aload_n 0, 1) := by decide +kernel
theorem dL_isAskingSo_91 : decode cL_isAskingSo 91 = .ok (.iload_n 1, 1) := by decide +kernel
theorem dL_isAskingSo_92 : decode cL_isAskingSo 92 = .ok (.iload_n 2, 1) := by decide +kernel
theorem dL_isAskingSo_93 : decode cL_isAskingSo 93 = .ok (.iload_n 3, 1) := by decide +kernel
theorem dL_isAskingSo_94 : decode cL_isAskingSo 94 = .ok (.invokestatic 78, 3) := by decide +kernel
theorem dL_isAskingSo_97 : decode cL_isAskingSo 97 = .ok (.ifCond .eq 7, 3) := by decide +kernel
theorem dL_isAskingSo_100 : decode cL_isAskingSo 100 = .ok (.iconst 2, 1) := by decide +kernel
theorem dL_isAskingSo_101 : decode cL_isAskingSo 101 = .ok (.goto 40, 3) := by decide +kernel
theorem dL_isAskingSo_104 : decode cL_isAskingSo 104 = .ok (.iload 5, 2) := by decide +kernel
theorem dL_isAskingSo_106 : decode cL_isAskingSo 106 = .ok (.ifCond .eq 7, 3) := by decide +kernel
theorem dL_isAskingSo_109 : decode cL_isAskingSo 109 = .ok (.iconst 0, 1) := by decide +kernel
theorem dL_isAskingSo_110 : decode cL_isAskingSo 110 = .ok (.goto 31, 3) := by decide +kernel
theorem dL_isAskingSo_113 : decode cL_isAskingSo 113 = .ok (.iload 6, 2) := by decide +kernel
theorem dL_isAskingSo_115 : decode cL_isAskingSo 115 = .ok (.ifCond .ne 16, 3) := by decide +kernel
theorem dL_isAskingSo_118 : decode cL_isAskingSo 118 = .ok (.aload_n 0, 1) := by decide +kernel
theorem dL_isAskingSo_119 : decode cL_isAskingSo 119 = .ok (.iload_n 1, 1) := by decide +kernel
theorem dL_isAskingSo_120 : decode cL_isAskingSo 120 = .ok (.iconst 2, 1) := by decide +kernel
theorem dL_isAskingSo_121 : decode cL_isAskingSo 121 = .ok (.invokevirtual 56, 3) := by decide +kernel
theorem dL_isAskingSo_124 : decode cL_isAskingSo 124 = .ok (.ifCond .ne 7, 3) := by decide +kernel
theorem dL_isAskingSo_127 : decode cL_isAskingSo 127 = .ok (.iconst 3, 1) := by decide +kernel
theorem dL_isAskingSo_128 : decode cL_isAskingSo 128 = .ok (.goto 13, 3) := by decide +kernel
theorem dL_isAskingSo_131 : decode cL_isAskingSo 131 = .ok (.iload 4, 2) := by decide +kernel
theorem dL_isAskingSo_133 : decode cL_isAskingSo 133 = .ok (.ifCond .ge 7, 3) := by decide +kernel
theorem dL_isAskingSo_136 : decode cL_isAskingSo 136 = .ok (.iconst 4, 1) := by decide +kernel
theorem dL_isAskingSo_137 : decode cL_isAskingSo 137 = .ok (.goto 4, 3) := by decide +kernel
theorem dL_isAskingSo_140 : decode cL_isAskingSo 140 = .ok (.iconst 0, 1) := by decide +kernel
theorem dL_isAskingSo_141 : decode cL_isAskingSo 141 = .ok (.istore 7, 2) := by decide +kernel
theorem dL_isAskingSo_143 : decode cL_isAskingSo 143 = .ok (.aload_n 0, 1) := by decide +kernel
theorem dL_isAskingSo_144 : decode cL_isAskingSo 144 = .ok (.iload_n 1, 1) := by decide +kernel
theorem dL_isAskingSo_145 : decode cL_isAskingSo 145 = .ok (.iload_n 2, 1) := by decide +kernel
theorem dL_isAskingSo_146 : decode cL_isAskingSo 146 = .ok (.iload_n 3, 1) := by decide +kernel
theorem dL_isAskingSo_147 : decode cL_isAskingSo 147 = .ok (.invokevirtual 81, 3) := by decide +kernel
theorem dL_isAskingSo_150 : decode cL_isAskingSo 150 = .ok (.istore 8, 2) := by decide +kernel
theorem dL_isAskingSo_152 : decode cL_isAskingSo 152 = .ok (.aload_n 0, 1) := by decide +kernel
theorem dL_isAskingSo_153 : decode cL_isAskingSo 153 = .ok (.iload_n 1, 1) := by decide +kernel
theorem dL_isAskingSo_154 : decode cL_isAskingSo 154 = .ok (.iload_n 2, 1) := by decide +kernel
theorem dL_isAskingSo_155 : decode cL_isAskingSo 155 = .ok (.iload_n 3, 1) := by decide +kernel
theorem dL_isAskingSo_156 : decode cL_isAskingSo 156 = .ok (.invokevirtual 84, 3) := by decide +kernel
theorem dL_isAskingSo_159 : decode cL_isAskingSo 159 = .ok (.istore 9, 2) := by decide +kernel
theorem dL_isAskingSo_161 : decode cL_isAskingSo 161 = .ok (.aload_n 0, 1) := by decide +kernel
theorem dL_isAskingSo_162 : decode cL_isAskingSo 162 = .ok (.iload_n 1, 1) := by decide +kernel
theorem dL_isAskingSo_163 : decode cL_isAskingSo 163 = .ok (.iconst 1, 1) := by decide +kernel
theorem dL_isAskingSo_164 : decode cL_isAskingSo 164 = .ok (.invokevirtual 56, 3) := by decide +kernel
theorem dL_isAskingSo_167 : decode cL_isAskingSo 167 = .ok (.istore 10, 2) := by decide +kernel
theorem dL_isAskingSo_169 : decode cL_isAskingSo 169 = .ok (.aload_n 0, 1) := by decide +kernel
theorem dL_isAskingSo_170 : decode cL_isAskingSo 170 = .ok (.iload_n 1, 1) := by decide +kernel
theorem dL_isAskingSo_171 : decode cL_isAskingSo 171 = .ok (.iconst 2, 1) := by decide +kernel
theorem dL_isAskingSo_172 : decode cL_isAskingSo 172 = .ok (.invokevirtual 56, 3) := by decide +kernel
theorem dL_isAskingSo_175 : decode cL_isAskingSo 175 = .ok (.istore 11, 2) := by decide +kernel
theorem dL_isAskingSo_177 : decode cL_isAskingSo 177 = .ok (.aload_n 0, 1) := by decide +kernel
theorem dL_isAskingSo_178 : decode cL_isAskingSo 178 = .ok (.bipush 7, 2) := by decide +kernel
theorem dL_isAskingSo_180 : decode cL_isAskingSo 180 = .ok (.invokevirtual 53, 3) := by decide +kernel
theorem dL_isAskingSo_183 : decode cL_isAskingSo 183 = .ok (.istore 12, 2) := by decide +kernel
theorem dL_isAskingSo_185 : decode cL_isAskingSo 185 = .ok (.aload_n 0, 1) := by decide +kernel
theorem dL_isAskingSo_186 : decode cL_isAskingSo 186 = .ok (.iconst 3, 1) := by decide +kernel
theorem dL_isAskingSo_187 : decode cL_isAskingSo 187 = .ok (.invokevirtual 53, 3) := by decide +kernel
theorem dL_isAskingSo_190 : decode cL_isAskingSo 190 = .ok (.istore 13, 2) := by decide +kernel
theorem dL_isAskingSo_192 : decode cL_isAskingSo 192 = .ok (.aload_n 0, 1) := by decide +kernel
theorem dL_isAskingSo_193 : decode cL_isAskingSo 193 = .ok (.iconst 2, 1) := by decide +kernel
theorem dL_isAskingSo_194 : decode cL_isAskingSo 194 = .ok (.invokevirtual 53, 3) := by decide +kernel
theorem dL_isAskingSo_197 : decode cL_isAskingSo 197 = .ok (.istore 14, 2) := by decide +kernel
theorem dL_isAskingSo_199 : decode cL_isAskingSo 199 = .ok (.iload 7, 2) := by decide +kernel
theorem dL_isAskingSo_201 : decode cL_isAskingSo 201 = .ok (.ifCond .le 18, 3) := by decide +kernel
theorem dL_isAskingSo_204 : decode cL_isAskingSo 204 = .ok (.iload 8, 2) := by decide +kernel
theorem dL_isAskingSo_206 : decode cL_isAskingSo 206 = .ok (.iload 7, 2) := by decide +kernel
theorem dL_isAskingSo_208 : decode cL_isAskingSo 208 = .ok (.if_icmp .ne 80, 3) := by decide +kernel
theorem dL_isAskingSo_211 : decode cL_isAskingSo 211 = .ok (.iload 9, 2) := by decide +kernel
theorem dL_isAskingSo_213 : decode cL_isAskingSo 213 = .ok (.ifCond .ne 75, 3) := by decide +kernel
theorem dL_isAskingSo_216 : decode cL_isAskingSo 216 = .ok (.goto 47, 3) := by decide +kernel
theorem dL_isAskingSo_219 : decode cL_isAskingSo 219 = .ok (.iload 8, 2) := by decide +kernel
theorem dL_isAskingSo_221 : decode cL_isAskingSo 221 = .ok (.bipush 9, 2) := by decide +kernel
theorem dL_isAskingSo_223 : decode cL_isAskingSo 223 = .ok (.if_icmp .le 65, 3) := by decide +kernel
theorem dL_isAskingSo_226 : decode cL_isAskingSo 226 = .ok (.iload 8, 2) := by decide +kernel
theorem dL_isAskingSo_228 : decode cL_isAskingSo 228 = .ok (.bipush 14, 2) := by decide +kernel
theorem dL_isAskingSo_230 : decode cL_isAskingSo 230 = .ok (.if_icmp .ge 58, 3) := by decide +kernel
theorem dL_isAskingSo_233 : decode cL_isAskingSo 233 = .ok (.iload 4, 2) := by decide +kernel
theorem dL_isAskingSo_235 : decode cL_isAskingSo 235 = .ok (.ifCond .lt 18, 3) := by decide +kernel
theorem dL_isAskingSo_238 : decode cL_isAskingSo 238 = .ok (.iload 8, 2) := by decide +kernel
theorem dL_isAskingSo_240 : decode cL_isAskingSo 240 = .ok (.bipush 10, 2) := by decide +kernel
theorem dL_isAskingSo_242 : decode cL_isAskingSo 242 = .ok (.iload 4, 2) := by decide +kernel
theorem dL_isAskingSo_244 : decode cL_isAskingSo 244 = .ok (.iadd, 1) := by decide +kernel
theorem dL_isAskingSo_245 : decode cL_isAskingSo 245 = .ok (.if_icmp .ne 43, 3) := by decide +kernel
theorem dL_isAskingSo_248 : decode cL_isAskingSo 248 = .ok (.iload 9, 2) := by decide +kernel
theorem dL_isAskingSo_250 : decode cL_isAskingSo 250 = .ok (.ifCond .ne 38, 3) := by decide +kernel
theorem dL_isAskingSo_253 : decode cL_isAskingSo 253 = .ok (.iload 4, 2) := by decide +kernel
theorem dL_isAskingSo_255 : decode cL_isAskingSo 255 = .ok (.ifCond .ge 8, 3) := by decide +kernel
theorem dL_isAskingSo_258 : decode cL_isAskingSo 258 = .ok (.iload 9, 2) := by decide +kernel
theorem dL_isAskingSo_260 : decode cL_isAskingSo 260 = .ok (.ifCond .le 28, 3) := by decide +kernel
theorem dL_isAskingSo_263 : decode cL_isAskingSo 263 = .ok (.iload 9, 2) := by decide +kernel
theorem dL_isAskingSo_265 : decode cL_isAskingSo 265 = .ok (.iload_n 1, 1) := by decide +kernel
theorem dL_isAskingSo_266 : decode cL_isAskingSo 266 = .ok (.ishr, 1) := by decide +kernel
theorem dL_isAskingSo_267 : decode cL_isAskingSo 267 = .ok (.iconst 1, 1) := by decide +kernel
theorem dL_isAskingSo_268 : decode cL_isAskingSo 268 = .ok (.iand, 1) := by decide +kernel
theorem dL_isAskingSo_269 : decode cL_isAskingSo 269 = .ok (.ifCond .ne 19, 3) := by decide +kernel
theorem dL_isAskingSo_272 : decode cL_isAskingSo 272 = .ok (.aload_n 0, 1) := by decide +kernel
theorem dL_isAskingSo_273 : decode cL_isAskingSo 273 = .ok (.iload_n 1, 1) := by decide +kernel
theorem dL_isAskingSo_274 : decode cL_isAskingSo 274 = .ok (.iload_n 2, 1) := by decide +kernel
theorem dL_isAskingSo_275 : decode cL_isAskingSo 275 = .ok (.iload_n 3, 1) := by decide +kernel
theorem dL_isAskingSo_276 : decode cL_isAskingSo 276 = .ok (.invokevirtual 8, 3) := by decide +kernel
theorem dL_isAskingSo_279 : decode cL_isAskingSo 279 = .ok (.iload 8, 2) := by decide +kernel
theorem dL_isAskingSo_281 : decode cL_isAskingSo 281 = .ok (.if_icmp .ne 7, 3) := by decide +kernel
theorem dL_isAskingSo_284 : decode cL_isAskingSo 284 = .ok (.iconst 1, 1) := by decide +kernel
theorem dL_isAskingSo_285 : decode cL_isAskingSo 285 = .ok (.goto 4, 3) := by decide +kernel
theorem dL_isAskingSo_288 : decode cL_isAskingSo 288 = .ok (.iconst 0, 1) := by decide +kernel
theorem dL_isAskingSo_289 : decode cL_isAskingSo 289 = .ok (.istore 15, 2) := by decide +kernel
theorem dL_isAskingSo_291 : decode cL_isAskingSo 291 = .ok (.iload 7, 2) := by decide +kernel
theorem dL_isAskingSo_293 : decode cL_isAskingSo 293 = .ok (.ifCond .le 73, 3) := by decide +kernel
theorem dL_isAskingSo_296 : decode cL_isAskingSo 296 = .ok (.iload 15, 2) := by decide +kernel
theorem dL_isAskingSo_298 : decode cL_isAskingSo 298 = .ok (.ifCond .eq 66, 3) := by decide +kernel
theorem dL_isAskingSo_301 : decode cL_isAskingSo 301 = .ok (.aload_n 0, 1) := by decide +kernel
theorem dL_isAskingSo_302 : decode cL_isAskingSo 302 = .ok (.iload_n 1, 1) := by decide +kernel
theorem dL_isAskingSo_303 : decode cL_isAskingSo 303 = .ok (.iconst 1, 1) := by decide +kernel
theorem dL_isAskingSo_304 : decode cL_isAskingSo 304 = .ok (.invokevirtual 56, 3) := by decide +kernel
theorem dL_isAskingSo_307 : decode cL_isAskingSo 307 = .ok (.iload 7, 2) := by decide +kernel
theorem dL_isAskingSo_309 : decode cL_isAskingSo 309 = .ok (.iconst 3, 1) := by decide +kernel
theorem dL_isAskingSo_310 : decode cL_isAskingSo 310 = .ok (.if_icmp .lt 10, 3) := by decide +kernel
theorem dL_isAskingSo_313 : decode cL_isAskingSo 313 = .ok (.iload 10, 2) := by decide +kernel
theorem dL_isAskingSo_315 : decode cL_isAskingSo 315 = .ok (.bipush 7, 2) := by decide +kernel
theorem dL_isAskingSo_317 : decode cL_isAskingSo 317 = .ok (.if_icmp .ne 8, 3) := by decide +kernel
theorem dL_isAskingSo_320 : decode cL_isAskingSo 320 = .ok (.iload 10, 2) := by decide +kernel
theorem dL_isAskingSo_322 : decode cL_isAskingSo 322 = .ok (.goto 7, 3) := by decide +kernel
theorem dL_isAskingSo_325 : decode cL_isAskingSo 325 = .ok (.iload 10, 2) := by decide +kernel
theorem dL_isAskingSo_327 : decode cL_isAskingSo 327 = .ok (.iconst 1, 1) := by decide +kernel
theorem dL_isAskingSo_328 : decode cL_isAskingSo 328 = .ok (.iadd, 1) := by decide +kernel
theorem dL_isAskingSo_329 : decode cL_isAskingSo 329 = .ok (.if_icmp .ne 35, 3) := by decide +kernel
theorem dL_isAskingSo_332 : decode cL_isAskingSo 332 = .ok (.aload_n 0, 1) := by decide +kernel
theorem dL_isAskingSo_333 : decode cL_isAskingSo 333 = .ok (.iload_n 1, 1) := by decide +kernel
theorem dL_isAskingSo_334 : decode cL_isAskingSo 334 = .ok (.iconst 2, 1) := by decide +kernel
theorem dL_isAskingSo_335 : decode cL_isAskingSo 335 = .ok (.invokevirtual 56, 3) := by decide +kernel
theorem dL_isAskingSo_338 : decode cL_isAskingSo 338 = .ok (.iload 11, 2) := by decide +kernel
theorem dL_isAskingSo_340 : decode cL_isAskingSo 340 = .ok (.if_icmp .ne 24, 3) := by decide +kernel
theorem dL_isAskingSo_343 : decode cL_isAskingSo 343 = .ok (.aload_n 0, 1) := by decide +kernel
theorem dL_isAskingSo_344 : decode cL_isAskingSo 344 = .ok (.iconst 2, 1) := by decide +kernel
theorem dL_isAskingSo_345 : decode cL_isAskingSo 345 = .ok (.invokevirtual 53, 3) := by decide +kernel
theorem dL_isAskingSo_348 : decode cL_isAskingSo 348 = .ok (.iload 14, 2) := by decide +kernel
theorem dL_isAskingSo_350 : decode cL_isAskingSo 350 = .ok (.if_icmp .ne 14, 3) := by decide +kernel
theorem dL_isAskingSo_353 : decode cL_isAskingSo 353 = .ok (.aload_n 0, 1) := by decide +kernel
theorem dL_isAskingSo_354 : decode cL_isAskingSo 354 = .ok (.invokevirtual 87, 3) := by decide +kernel
theorem dL_isAskingSo_357 : decode cL_isAskingSo 357 = .ok (.ifCond .lt 7, 3) := by decide +kernel
theorem dL_isAskingSo_360 : decode cL_isAskingSo 360 = .ok (.iconst 1, 1) := by decide +kernel
theorem dL_isAskingSo_361 : decode cL_isAskingSo 361 = .ok (.goto 4, 3) := by decide +kernel
theorem dL_isAskingSo_364 : decode cL_isAskingSo 364 = .ok (.iconst 0, 1) := by decide +kernel
theorem dL_isAskingSo_365 : decode cL_isAskingSo 365 = .ok (.ireturn, 1) := by decide +kernel
theorem dL_isAskingSo_366 : decode cL_isAskingSo 366 = .ok (.iload_n 2, 1) := by decide +kernel
theorem dL_isAskingSo_367 : decode cL_isAskingSo 367 = .ok (.istore 16, 2) := by decide +kernel
theorem dL_isAskingSo_369 : decode cL_isAskingSo 369 = .ok (.iload 16, 2) := by decide +kernel
theorem dL_isAskingSo_371 : decode cL_isAskingSo 371 = .ok (.iload_n 2, 1) := by decide +kernel
theorem dL_isAskingSo_372 : decode cL_isAskingSo 372 = .ok (.iload_n 3, 1) := by decide +kernel
theorem dL_isAskingSo_373 : decode cL_isAskingSo 373 = .ok (.iadd, 1) := by decide +kernel
theorem dL_isAskingSo_374 : decode cL_isAskingSo 374 = .ok (.if_icmp .ge 36, 3) := by decide +kernel
theorem dL_isAskingSo_377 : decode cL_isAskingSo 377 = .ok (.iload 15, 2) := by decide +kernel
theorem dL_isAskingSo_379 : decode cL_isAskingSo 379 = .ok (.ifCond .eq 22, 3) := by decide +kernel
theorem dL_isAskingSo_382 : decode cL_isAskingSo 382 = .ok (.aload_n 0, 1) := by decide +kernel
theorem dL_isAskingSo_383 : decode cL_isAskingSo 383 = .ok (.iload 8, 2) := by decide +kernel
theorem dL_isAskingSo_385 : decode cL_isAskingSo 385 = .ok (.bipush 10, 2) := by decide +kernel
theorem dL_isAskingSo_387 : decode cL_isAskingSo 387 = .ok (.isub, 1) := by decide +kernel
theorem dL_isAskingSo_388 : decode cL_isAskingSo 388 = .ok (.iload 16, 2) := by decide +kernel
theorem dL_isAskingSo_390 : decode cL_isAskingSo 390 = .ok (.invokevirtual 59, 3) := by decide +kernel
theorem dL_isAskingSo_393 : decode cL_isAskingSo 393 = .ok (.iload_n 1, 1) := by decide +kernel
theorem dL_isAskingSo_394 : decode cL_isAskingSo 394 = .ok (.if_icmp .ne 7, 3) := by decide +kernel
theorem dL_isAskingSo_397 : decode cL_isAskingSo 397 = .ok (.iconst 1, 1) := by decide +kernel
theorem dL_isAskingSo_398 : decode cL_isAskingSo 398 = .ok (.goto 4, 3) := by decide +kernel
theorem dL_isAskingSo_401 : decode cL_isAskingSo 401 = .ok (.iconst 0, 1) := by decide +kernel
theorem dL_isAskingSo_402 : decode cL_isAskingSo 402 = .ok (.istore 15, 2) := by decide +kernel
theorem dL_isAskingSo_404 : decode cL_isAskingSo 404 = .ok (.iinc 16 1, 3) := by decide +kernel
theorem dL_isAskingSo_407 : decode cL_isAskingSo 407 = .ok (.goto (-38), 3) := by decide +kernel
theorem dL_isAskingSo_410 : decode cL_isAskingSo 410 = .ok (.iconst 0, 1) := by decide +kernel
theorem dL_isAskingSo_411 : decode cL_isAskingSo 411 = .ok (.istore 16, 2) := by decide +kernel
theorem dL_isAskingSo_413 : decode cL_isAskingSo 413 = .ok (.iload 16, 2) := by decide +kernel
theorem dL_isAskingSo_415 : decode cL_isAskingSo 415 = .ok (.bipush 10, 2) := by decide +kernel
theorem dL_isAskingSo_417 : decode cL_isAskingSo 417 = .ok (.if_icmp .ge 64, 3) := by decide +kernel
theorem dL_isAskingSo_420 : decode cL_isAskingSo 420 = .ok (.iload 9, 2) := by decide +kernel
theorem dL_isAskingSo_422 : decode cL_isAskingSo 422 = .ok (.iload 16, 2) := by decide +kernel
theorem dL_isAskingSo_424 : decode cL_isAskingSo 424 = .ok (.ishr, 1) := by decide +kernel
theorem dL_isAskingSo_425 : decode cL_isAskingSo 425 = .ok (.iconst 1, 1) := by decide +kernel
theorem dL_isAskingSo_426 : decode cL_isAskingSo 426 = .ok (.iand, 1) := by decide +kernel
theorem dL_isAskingSo_427 : decode cL_isAskingSo 427 = .ok (.iconst 1, 1) := by decide +kernel
theorem dL_isAskingSo_428 : decode cL_isAskingSo 428 = .ok (.if_icmp .ne 7, 3) := by decide +kernel
theorem dL_isAskingSo_431 : decode cL_isAskingSo 431 = .ok (.iconst 1, 1) := by decide +kernel
theorem dL_isAskingSo_432 : decode cL_isAskingSo 432 = .ok (.goto 4, 3) := by decide +kernel
theorem dL_isAskingSo_435 : decode cL_isAskingSo 435 = .ok (.iconst 0, 1) := by decide +kernel
theorem dL_isAskingSo_436 : decode cL_isAskingSo 436 = .ok (.istore 17, 2) := by decide +kernel
theorem dL_isAskingSo_438 : decode cL_isAskingSo 438 = .ok (.iload 15, 2) := by decide +kernel
theorem dL_isAskingSo_440 : decode cL_isAskingSo 440 = .ok (.ifCond .eq 32, 3) := by decide +kernel
theorem dL_isAskingSo_443 : decode cL_isAskingSo 443 = .ok (.iload 17, 2) := by decide +kernel
theorem dL_isAskingSo_445 : decode cL_isAskingSo 445 = .ok (.ifCond .eq 23, 3) := by decide +kernel
theorem dL_isAskingSo_448 : decode cL_isAskingSo 448 = .ok (.aload_n 0, 1) := by decide +kernel
theorem dL_isAskingSo_449 : decode cL_isAskingSo 449 = .ok (.iload 16, 2) := by decide +kernel
theorem dL_isAskingSo_451 : decode cL_isAskingSo 451 = .ok (.iconst 1, 1) := by decide +kernel
theorem dL_isAskingSo_452 : decode cL_isAskingSo 452 = .ok (.invokevirtual 56, 3) := by decide +kernel
theorem dL_isAskingSo_455 : decode cL_isAskingSo 455 = .ok (.ifCond .le 17, 3) := by decide +kernel
theorem dL_isAskingSo_458 : decode cL_isAskingSo 458 = .ok (.aload_n 0, 1) := by decide +kernel
theorem dL_isAskingSo_459 : decode cL_isAskingSo 459 = .ok (.iload 16, 2) := by decide +kernel
theorem dL_isAskingSo_461 : decode cL_isAskingSo 461 = .ok (.iconst 5, 1) := by decide +kernel
theorem dL_isAskingSo_462 : decode cL_isAskingSo 462 = .ok (.invokevirtual 56, 3) := by decide +kernel
theorem dL_isAskingSo_465 : decode cL_isAskingSo 465 = .ok (.ifCond .le 7, 3) := by decide +kernel
theorem dL_isAskingSo_468 : decode cL_isAskingSo 468 = .ok (.iconst 1, 1) := by decide +kernel
theorem dL_isAskingSo_469 : decode cL_isAskingSo 469 = .ok (.goto 4, 3) := by decide +kernel
theorem dL_isAskingSo_472 : decode cL_isAskingSo 472 = .ok (.iconst 0, 1) := by decide +kernel
theorem dL_isAskingSo_473 : decode cL_isAskingSo 473 = .ok (.istore 15, 2) := by decide +kernel
theorem dL_isAskingSo_475 : decode cL_isAskingSo 475 = .ok (.iinc 16 1, 3) := by decide +kernel
theorem dL_isAskingSo_478 : decode cL_isAskingSo 478 = .ok (.goto (-65), 3) := by decide +kernel
theorem dL_isAskingSo_481 : decode cL_isAskingSo 481 = .ok (.iload 15, 2) := by decide +kernel
theorem dL_isAskingSo_483 : decode cL_isAskingSo 483 = .ok (.ifCond .eq 133, 3) := by decide +kernel
theorem dL_isAskingSo_486 : decode cL_isAskingSo 486 = .ok (.aload_n 0, 1) := by decide +kernel
theorem dL_isAskingSo_487 : decode cL_isAskingSo 487 = .ok (.iload_n 1, 1) := by decide +kernel
theorem dL_isAskingSo_488 : decode cL_isAskingSo 488 = .ok (.iconst 1, 1) := by decide +kernel
theorem dL_isAskingSo_489 : decode cL_isAskingSo 489 = .ok (.invokevirtual 56, 3) := by decide +kernel
theorem dL_isAskingSo_492 : decode cL_isAskingSo 492 = .ok (.ifCond .ne 124, 3) := by decide +kernel
theorem dL_isAskingSo_495 : decode cL_isAskingSo 495 = .ok (.aload_n 0, 1) := by decide +kernel
theorem dL_isAskingSo_496 : decode cL_isAskingSo 496 = .ok (.iload_n 1, 1) := by decide +kernel
theorem dL_isAskingSo_497 : decode cL_isAskingSo 497 = .ok (.iconst 2, 1) := by decide +kernel
theorem dL_isAskingSo_498 : decode cL_isAskingSo 498 = .ok (.invokevirtual 56, 3) := by decide +kernel
theorem dL_isAskingSo_501 : decode cL_isAskingSo 501 = .ok (.iload 5, 2) := by decide +kernel
theorem dL_isAskingSo_503 : decode cL_isAskingSo 503 = .ok (.ifCond .ne 8, 3) := by decide +kernel
theorem dL_isAskingSo_506 : decode cL_isAskingSo 506 = .ok (.iload 6, 2) := by decide +kernel
theorem dL_isAskingSo_508 : decode cL_isAskingSo 508 = .ok (.ifCond .eq 8, 3) := by decide +kernel
theorem dL_isAskingSo_511 : decode cL_isAskingSo 511 = .ok (.iload 11, 2) := by decide +kernel
theorem dL_isAskingSo_513 : decode cL_isAskingSo 513 = .ok (.goto 7, 3) := by decide +kernel
theorem dL_isAskingSo_516 : decode cL_isAskingSo 516 = .ok (.iload 11, 2) := by decide +kernel
theorem dL_isAskingSo_518 : decode cL_isAskingSo 518 = .ok (.iconst 1, 1) := by decide +kernel
theorem dL_isAskingSo_519 : decode cL_isAskingSo 519 = .ok (.isub, 1) := by decide +kernel
theorem dL_isAskingSo_520 : decode cL_isAskingSo 520 = .ok (.if_icmp .ne 96, 3) := by decide +kernel
theorem dL_isAskingSo_523 : decode cL_isAskingSo 523 = .ok (.aload_n 0, 1) := by decide +kernel
theorem dL_isAskingSo_524 : decode cL_isAskingSo 524 = .ok (.iconst 2, 1) := by decide +kernel
theorem dL_isAskingSo_525 : decode cL_isAskingSo 525 = .ok (.invokevirtual 53, 3) := by decide +kernel
theorem dL_isAskingSo_528 : decode cL_isAskingSo 528 = .ok (.iload 14, 2) := by decide +kernel
theorem dL_isAskingSo_530 : decode cL_isAskingSo 530 = .ok (.iload_n 3, 1) := by decide +kernel
theorem dL_isAskingSo_531 : decode cL_isAskingSo 531 = .ok (.iadd, 1) := by decide +kernel
theorem dL_isAskingSo_532 : decode cL_isAskingSo 532 = .ok (.aload_n 0, 1) := by decide +kernel
theorem dL_isAskingSo_533 : decode cL_isAskingSo 533 = .ok (.bipush 7, 2) := by decide +kernel
theorem dL_isAskingSo_535 : decode cL_isAskingSo 535 = .ok (.invokevirtual 53, 3) := by decide +kernel
theorem dL_isAskingSo_538 : decode cL_isAskingSo 538 = .ok (.iload 12, 2) := by decide +kernel
theorem dL_isAskingSo_540 : decode cL_isAskingSo 540 = .ok (.isub, 1) := by decide +kernel
theorem dL_isAskingSo_541 : decode cL_isAskingSo 541 = .ok (.isub, 1) := by decide +kernel
theorem dL_isAskingSo_542 : decode cL_isAskingSo 542 = .ok (.if_icmp .ne 74, 3) := by decide +kernel
theorem dL_isAskingSo_545 : decode cL_isAskingSo 545 = .ok (.aload_n 0, 1) := by decide +kernel
theorem dL_isAskingSo_546 : decode cL_isAskingSo 546 = .ok (.iconst 3, 1) := by decide +kernel
theorem dL_isAskingSo_547 : decode cL_isAskingSo 547 = .ok (.invokevirtual 53, 3) := by decide +kernel
theorem dL_isAskingSo_550 : decode cL_isAskingSo 550 = .ok (.iload 13, 2) := by decide +kernel
theorem dL_isAskingSo_552 : decode cL_isAskingSo 552 = .ok (.if_icmp .ne 64, 3) := by decide +kernel
theorem dL_isAskingSo_555 : decode cL_isAskingSo 555 = .ok (.iload 9, 2) := by decide +kernel
theorem dL_isAskingSo_557 : decode cL_isAskingSo 557 = .ok (.ifCond .le 7, 3) := by decide +kernel
theorem dL_isAskingSo_560 : decode cL_isAskingSo 560 = .ok (.iconst 1, 1) := by decide +kernel
theorem dL_isAskingSo_561 : decode cL_isAskingSo 561 = .ok (.goto 4, 3) := by decide +kernel
theorem dL_isAskingSo_564 : decode cL_isAskingSo 564 = .ok (.iconst 0, 1) := by decide +kernel
theorem dL_isAskingSo_565 : decode cL_isAskingSo 565 = .ok (.aload_n 0, 1) := by decide +kernel
theorem dL_isAskingSo_566 : decode cL_isAskingSo 566 = .ok (.bipush 7, 2) := by decide +kernel
theorem dL_isAskingSo_568 : decode cL_isAskingSo 568 = .ok (.invokevirtual 53, 3) := by decide +kernel
theorem dL_isAskingSo_571 : decode cL_isAskingSo 571 = .ok (.iload 12, 2) := by decide +kernel
theorem dL_isAskingSo_573 : decode cL_isAskingSo 573 = .ok (.if_icmp .le 7, 3) := by decide +kernel
theorem dL_isAskingSo_576 : decode cL_isAskingSo 576 = .ok (.iconst 1, 1) := by decide +kernel
theorem dL_isAskingSo_577 : decode cL_isAskingSo 577 = .ok (.goto 4, 3) := by decide +kernel
theorem dL_isAskingSo_580 : decode cL_isAskingSo 580 = .ok (.iconst 0, 1) := by decide +kernel
theorem dL_isAskingSo_581 : decode cL_isAskingSo 581 = .ok (.if_icmp .ne 35, 3) := by decide +kernel
theorem dL_isAskingSo_584 : decode cL_isAskingSo 584 = .ok (.aload_n 0, 1) := by decide +kernel
theorem dL_isAskingSo_585 : decode cL_isAskingSo 585 = .ok (.invokevirtual 87, 3) := by decide +kernel
theorem dL_isAskingSo_588 : decode cL_isAskingSo 588 = .ok (.ifCond .lt 28, 3) := by decide +kernel
theorem dL_isAskingSo_591 : decode cL_isAskingSo 591 = .ok (.aload_n 0, 1) := by decide +kernel
theorem dL_isAskingSo_592 : decode cL_isAskingSo 592 = .ok (.iconst 2, 1) := by decide +kernel
theorem dL_isAskingSo_593 : decode cL_isAskingSo 593 = .ok (.invokevirtual 53, 3) := by decide +kernel
theorem dL_isAskingSo_596 : decode cL_isAskingSo 596 = .ok (.iload 14, 2) := by decide +kernel
theorem dL_isAskingSo_598 : decode cL_isAskingSo 598 = .ok (.if_icmp .ne 18, 3) := by decide +kernel
theorem dL_isAskingSo_601 : decode cL_isAskingSo 601 = .ok (.aload_n 0, 1) := by decide +kernel
theorem dL_isAskingSo_602 : decode cL_isAskingSo 602 = .ok (.iload_n 1, 1) := by decide +kernel
theorem dL_isAskingSo_603 : decode cL_isAskingSo 603 = .ok (.iconst 1, 1) := by decide +kernel
theorem dL_isAskingSo_604 : decode cL_isAskingSo 604 = .ok (.invokevirtual 56, 3) := by decide +kernel
theorem dL_isAskingSo_607 : decode cL_isAskingSo 607 = .ok (.iload 10, 2) := by decide +kernel
theorem dL_isAskingSo_609 : decode cL_isAskingSo 609 = .ok (.if_icmp .ne 7, 3) := by decide +kernel
theorem dL_isAskingSo_612 : decode cL_isAskingSo 612 = .ok (.iconst 1, 1) := by decide +kernel
theorem dL_isAskingSo_613 : decode cL_isAskingSo 613 = .ok (.goto 4, 3) := by decide +kernel
theorem dL_isAskingSo_616 : decode cL_isAskingSo 616 = .ok (.iconst 0, 1) := by decide +kernel
theorem dL_isAskingSo_617 : decode cL_isAskingSo 617 = .ok (.ireturn, 1) := by decide +kernel
theorem dL_isLongestSo_0 : decode cL_isLongestSo 0 = .ok (.aload_n 0, 1) := by decide +kernel
theorem dL_isLongestSo_1 : decode cL_isLongestSo 1 = .ok (.iload_n 1, 1) := by decide +kernel
theorem dL_isLongestSo_2 : decode cL_isLongestSo 2 = .ok (.iload_n 2, 1) := by decide +kernel
theorem dL_isLongestSo_3 : decode cL_isLongestSo 3 = .ok (.invokevirtual 90, 3) := by decide +kernel
theorem dL_isLongestSo_6 : decode cL_isLongestSo 6 = .ok (.istore_n 3, 1) := by decide +kernel
theorem dL_isLongestSo_7 : decode cL_isLongestSo 7 = .ok (.iload_n 3, 1) := by decide +kernel
theorem dL_isLongestSo_8 : decode cL_isLongestSo 8 = .ok (.ifCond .lt 34, 3) := by decide +kernel
theorem dL_isLongestSo_11 : decode cL_isLongestSo 11 = .ok (.iload_n 3, 1) := by decide +kernel
theorem dL_isLongestSo_12 : decode cL_isLongestSo 12 = .ok (.bipush 9, 2) := by decide +kernel
theorem dL_isLongestSo_14 : decode cL_isLongestSo 14 = .ok (.if_icmp .gt 28, 3) := by decide +kernel
theorem dL_isLongestSo_17 : decode cL_isLongestSo 17 = .ok (.iload_n 2, 1) := by decide +kernel
theorem dL_isLongestSo_18 : decode cL_isLongestSo 18 = .ok (.iload_n 3, 1) := by decide +kernel
theorem dL_isLongestSo_19 : decode cL_isLongestSo 19 = .ok (.iadd, 1) := by decide +kernel
theorem dL_isLongestSo_20 : decode cL_isLongestSo 20 = .ok (.bipush 12, 2) := by decide +kernel
theorem dL_isLongestSo_22 : decode cL_isLongestSo 22 = .ok (.if_icmp .gt 20, 3) := by decide +kernel
theorem dL_isLongestSo_25 : decode cL_isLongestSo 25 = .ok (.iload_n 3, 1) := by decide +kernel
theorem dL_isLongestSo_26 : decode cL_isLongestSo 26 = .ok (.ifCond .eq 12, 3) := by decide +kernel
theorem dL_isLongestSo_29 : decode cL_isLongestSo 29 = .ok (.iload_n 2, 1) := by decide +kernel
theorem dL_isLongestSo_30 : decode cL_isLongestSo 30 = .ok (.aload_n 0, 1) := by decide +kernel
theorem dL_isLongestSo_31 : decode cL_isLongestSo 31 = .ok (.iconst 0, 1) := by decide +kernel
theorem dL_isLongestSo_32 : decode cL_isLongestSo 32 = .ok (.invokevirtual 53, 3) := by decide +kernel
theorem dL_isLongestSo_35 : decode cL_isLongestSo 35 = .ok (.if_icmp .lt 7, 3) := by decide +kernel
theorem dL_isLongestSo_38 : decode cL_isLongestSo 38 = .ok (.iconst 1, 1) := by decide +kernel
theorem dL_isLongestSo_39 : decode cL_isLongestSo 39 = .ok (.goto 4, 3) := by decide +kernel
theorem dL_isLongestSo_42 : decode cL_isLongestSo 42 = .ok (.iconst 0, 1) := by decide +kernel
theorem dL_isLongestSo_43 : decode cL_isLongestSo 43 = .ok (.istore 4, 2) := by decide +kernel
theorem dL_isLongestSo_45 : decode cL_isLongestSo 45 = .ok (.iconst 0, 1) := by decide +kernel
theorem dL_isLongestSo_46 : decode cL_isLongestSo 46 = .ok (.istore 5, 2) := by decide +kernel
theorem dL_isLongestSo_48 : decode cL_isLongestSo 48 = .ok (.iload 5, 2) := by decide +kernel
theorem dL_isLongestSo_50 : decode cL_isLongestSo 50 = .ok (.iconst 2, 1) := by decide +kernel
theorem dL_isLongestSo_51 : decode cL_isLongestSo 51 = .ok (.if_icmp .ge 130, 3) := by decide +kernel
theorem dL_isLongestSo_54 : decode cL_isLongestSo 54 = .ok (.iload_n 3, 1) := by decide +kernel
theorem dL_isLongestSo_55 : decode cL_isLongestSo 55 = .ok (.iload 5, 2) := by decide +kernel
theorem dL_isLongestSo_57 : decode cL_isLongestSo 57 = .ok (.iadd, 1) := by decide +kernel
theorem dL_isLongestSo_58 : decode cL_isLongestSo 58 = .ok (.istore 6, 2) := by decide +kernel
theorem dL_isLongestSo_60 : decode cL_isLongestSo 60 = .ok (.iconst 0, 1) := by decide +kernel
theorem dL_isLongestSo_61 : decode cL_isLongestSo 61 = .ok (.istore 7, 2) := by decide +kernel
theorem dL_isLongestSo_63 : decode cL_isLongestSo 63 = .ok (.iconst 0, 1) := by decide +kernel
theorem dL_isLongestSo_64 : decode cL_isLongestSo 64 = .ok (.istore 8, 2) := by decide +kernel
theorem dL_isLongestSo_66 : decode cL_isLongestSo 66 = .ok (.iload 8, 2) := by decide +kernel
theorem dL_isLongestSo_68 : decode cL_isLongestSo 68 = .ok (.iconst 4, 1) := by decide +kernel
theorem dL_isLongestSo_69 : decode cL_isLongestSo 69 = .ok (.if_icmp .ge 74, 3) := by decide +kernel
theorem dL_isLongestSo_72 : decode cL_isLongestSo 72 = .ok (.iload 6, 2) := by decide +kernel
theorem dL_isLongestSo_74 : decode cL_isLongestSo 74 = .ok (.ifCond .le 69, 3) := by decide +kernel
theorem dL_isLongestSo_77 : decode cL_isLongestSo 77 = .ok (.iload 6, 2) := by decide +kernel
theorem dL_isLongestSo_79 : decode cL_isLongestSo 79 = .ok (.bipush 10, 2) := by decide +kernel
theorem dL_isLongestSo_81 : decode cL_isLongestSo 81 = .ok (.if_icmp .ge 62, 3) := by decide +kernel
theorem dL_isLongestSo_84 : decode cL_isLongestSo 84 = .ok (.iload_n 2, 1) := by decide +kernel
theorem dL_isLongestSo_85 : decode cL_isLongestSo 85 = .ok (.iload 6, 2) := by decide +kernel
theorem dL_isLongestSo_87 : decode cL_isLongestSo 87 = .ok (.iadd, 1) := by decide +kernel
theorem dL_isLongestSo_88 : decode cL_isLongestSo 88 = .ok (.bipush 13, 2) := by decide +kernel
theorem dL_isLongestSo_90 : decode cL_isLongestSo 90 = .ok (.if_icmp .ge 53, 3) := by decide +kernel
theorem dL_isLongestSo_93 : decode cL_isLongestSo 93 = .ok (.iload 7, 2) := by decide +kernel
theorem dL_isLongestSo_95 : decode cL_isLongestSo 95 = .ok (.ifCond .ne 35, 3) := by decide +kernel
theorem dL_isLongestSo_98 : decode cL_isLongestSo 98 = .ok (.aload_n 0, 1) := by decide +kernel
theorem dL_isLongestSo_99 : decode cL_isLongestSo 99 = .ok (.iload 8, 2) := by decide +kernel
theorem dL_isLongestSo_101 : decode cL_isLongestSo 101 = .ok (.iload_n 2, 1) := by decide +kernel
theorem dL_isLongestSo_102 : decode cL_isLongestSo 102 = .ok (.iload 6, 2) := by decide +kernel
theorem dL_isLongestSo_104 : decode cL_isLongestSo 104 = .ok (.invokestatic 74, 3) := by decide +kernel
theorem dL_isLongestSo_107 : decode cL_isLongestSo 107 = .ok (.ifCond .eq 27, 3) := by decide +kernel
theorem dL_isLongestSo_110 : decode cL_isLongestSo 110 = .ok (.aload_n 0, 1) := by decide +kernel
theorem dL_isLongestSo_111 : decode cL_isLongestSo 111 = .ok (.iload_n 1, 1) := by decide +kernel
theorem dL_isLongestSo_112 : decode cL_isLongestSo 112 = .ok (.iload_n 2, 1) := by decide +kernel
theorem dL_isLongestSo_113 : decode cL_isLongestSo 113 = .ok (.iload 6, 2) := by decide +kernel
theorem dL_isLongestSo_115 : decode cL_isLongestSo 115 = .ok (.invokestatic 78, 3) := by decide +kernel
theorem dL_isLongestSo_118 : decode cL_isLongestSo 118 = .ok (.ifCond .ne 16, 3) := by decide +kernel
theorem dL_isLongestSo_121 : decode cL_isLongestSo 121 = .ok (.iload_n 2, 1) := by decide +kernel
theorem dL_isLongestSo_122 : decode cL_isLongestSo 122 = .ok (.aload_n 0, 1) := by decide +kernel
theorem dL_isLongestSo_123 : decode cL_isLongestSo 123 = .ok (.iconst 0, 1) := by decide +kernel
theorem dL_isLongestSo_124 : decode cL_isLongestSo 124 = .ok (.invokevirtual 53, 3) := by decide +kernel
theorem dL_isLongestSo_127 : decode cL_isLongestSo 127 = .ok (.if_icmp .lt 7, 3) := by decide +kernel
theorem dL_isLongestSo_130 : decode cL_isLongestSo 130 = .ok (.iconst 1, 1) := by decide +kernel
theorem dL_isLongestSo_131 : decode cL_isLongestSo 131 = .ok (.goto 4, 3) := by decide +kernel
theorem dL_isLongestSo_134 : decode cL_isLongestSo 134 = .ok (.iconst 0, 1) := by decide +kernel
theorem dL_isLongestSo_135 : decode cL_isLongestSo 135 = .ok (.istore 7, 2) := by decide +kernel
theorem dL_isLongestSo_137 : decode cL_isLongestSo 137 = .ok (.iinc 8 1, 3) := by decide +kernel
theorem dL_isLongestSo_140 : decode cL_isLongestSo 140 = .ok (.goto (-74), 3) := by decide +kernel
theorem dL_isLongestSo_143 : decode cL_isLongestSo 143 = .ok (.iload 4, 2) := by decide +kernel
theorem dL_isLongestSo_145 : decode cL_isLongestSo 145 = .ok (.ifCond .eq 27, 3) := by decide +kernel
theorem dL_isLongestSo_148 : decode cL_isLongestSo 148 = .ok (.iload 6, 2) := by decide +kernel
theorem dL_isLongestSo_150 : decode cL_isLongestSo 150 = .ok (.ifCond .eq 18, 3) := by decide +kernel
theorem dL_isLongestSo_153 : decode cL_isLongestSo 153 = .ok (.iload 7, 2) := by decide +kernel
theorem dL_isLongestSo_155 : decode cL_isLongestSo 155 = .ok (.iload 5, 2) := by decide +kernel
theorem dL_isLongestSo_157 : decode cL_isLongestSo 157 = .ok (.ifCond .ne 7, 3) := by decide +kernel
theorem dL_isLongestSo_160 : decode cL_isLongestSo 160 = .ok (.iconst 1, 1) := by decide +kernel
theorem dL_isLongestSo_161 : decode cL_isLongestSo 161 = .ok (.goto 4, 3) := by decide +kernel
theorem dL_isLongestSo_164 : decode cL_isLongestSo 164 = .ok (.iconst 0, 1) := by decide +kernel
theorem dL_isLongestSo_165 : decode cL_isLongestSo 165 = .ok (.if_icmp .ne 7, 3) := by decide +kernel
theorem dL_isLongestSo_168 : decode cL_isLongestSo 168 = .ok (.iconst 1, 1) := by decide +kernel
theorem dL_isLongestSo_169 : decode cL_isLongestSo 169 = .ok (.goto 4, 3) := by decide +kernel
theorem dL_isLongestSo_172 : decode cL_isLongestSo 172 = .ok (.iconst 0, 1) := by decide +kernel
theorem dL_isLongestSo_173 : decode cL_isLongestSo 173 = .ok (.istore 4, 2) := by decide +kernel
theorem dL_isLongestSo_175 : decode cL_isLongestSo 175 = .ok (.iinc 5 1, 3) := by decide +kernel
theorem dL_isLongestSo_178 : decode cL_isLongestSo 178 = .ok (.goto (-130), 3) := by decide +kernel
theorem dL_isLongestSo_181 : decode cL_isLongestSo 181 = .ok (.iload 4, 2) := by decide +kernel
theorem dL_isLongestSo_183 : decode cL_isLongestSo 183 = .ok (.ireturn, 1) := by decide +kernel
theorem dL_law_0 : decode cL_law 0 = .ok (.new 9, 3) := by decide +kernel
theorem dL_law_3 : decode cL_law 3 = .ok (.dup, 1) := by decide +kernel
theorem dL_law_4 : decode cL_law 4 = .ok (.invokespecial 93, 3) := by decide +kernel
theorem dL_law_7 : decode cL_law 7 = .ok (.astore_n 1, 1) := by decide +kernel
theorem dL_law_8 : decode cL_law 8 = .ok (.new 9, 3) := by decide +kernel
theorem dL_law_11 : decode cL_law 11 = .ok (.dup, 1) := by decide +kernel
theorem dL_law_12 : decode cL_law 12 = .ok (.invokespecial 93, 3) := by decide +kernel
theorem dL_law_15 : decode cL_law 15 = .ok (.astore_n 2, 1) := by decide +kernel
theorem dL_law_16 : decode cL_law 16 = .ok (.iconst 1, 1) := by decide +kernel
theorem dL_law_17 : decode cL_law 17 = .ok (.newarray .int, 2) := by decide +kernel
theorem dL_law_19 : decode cL_law 19 = .ok (.astore_n 3, 1) := by decide +kernel
theorem dL_law_20 : decode cL_law 20 = .ok (.iconst 0, 1) := by decide +kernel
theorem dL_law_21 : decode cL_law 21 = .ok (.istore 4, 2) := by decide +kernel
theorem dL_law_23 : decode cL_law 23 = .ok (.iload 4, 2) := by decide +kernel
theorem dL_law_25 : decode cL_law 25 = .ok (.bipush 60, 2) := by decide +kernel
theorem dL_law_27 : decode cL_law 27 = .ok (.if_icmp .ge 298, 3) := by decide +kernel
theorem dL_law_30 : decode cL_law 30 = .ok (.aload_n 0, 1) := by decide +kernel
theorem dL_law_31 : decode cL_law 31 = .ok (.iload 4, 2) := by decide +kernel
theorem dL_law_33 : decode cL_law 33 = .ok (.invokestatic 94, 3) := by decide +kernel
theorem dL_law_36 : decode cL_law 36 = .ok (.istore 5, 2) := by decide +kernel
theorem dL_law_38 : decode cL_law 38 = .ok (.aload_n 1, 1) := by decide +kernel
theorem dL_law_39 : decode cL_law 39 = .ok (.bipush 11, 2) := by decide +kernel
theorem dL_law_41 : decode cL_law 41 = .ok (.invokevirtual 53, 3) := by decide +kernel
theorem dL_law_44 : decode cL_law 44 = .ok (.istore 6, 2) := by decide +kernel
theorem dL_law_46 : decode cL_law 46 = .ok (.aload_n 1, 1) := by decide +kernel
theorem dL_law_47 : decode cL_law 47 = .ok (.iload 5, 2) := by decide +kernel
theorem dL_law_49 : decode cL_law 49 = .ok (.aload_n 3, 1) := by decide +kernel
theorem dL_law_50 : decode cL_law 50 = .ok (.invokestatic 98, 3) := by decide +kernel
theorem dL_law_53 : decode cL_law 53 = .ok (.istore 7, 2) := by decide +kernel
theorem dL_law_55 : decode cL_law 55 = .ok (.aload_n 3, 1) := by decide +kernel
theorem dL_law_56 : decode cL_law 56 = .ok (.iconst 0, 1) := by decide +kernel
theorem dL_law_57 : decode cL_law 57 = .ok (.iaload, 1) := by decide +kernel
theorem dL_law_58 : decode cL_law 58 = .ok (.istore 8, 2) := by decide +kernel
theorem dL_law_60 : decode cL_law 60 = .ok (.iload 7, 2) := by decide +kernel
theorem dL_law_62 : decode cL_law 62 = .ok (.ifCond .eq 24, 3) := by decide +kernel
theorem dL_law_65 : decode cL_law 65 = .ok (.aload_n 1, 1) := by decide +kernel
theorem dL_law_66 : decode cL_law 66 = .ok (.aload_n 2, 1) := by decide +kernel
theorem dL_law_67 : decode cL_law 67 = .ok (.invokestatic 102, 3) := by decide +kernel
theorem dL_law_70 : decode cL_law 70 = .ok (.ifCond .eq 14, 3) := by decide +kernel
theorem dL_law_73 : decode cL_law 73 = .ok (.aload_n 1, 1) := by decide +kernel
theorem dL_law_74 : decode cL_law 74 = .ok (.bipush 11, 2) := by decide +kernel
theorem dL_law_76 : decode cL_law 76 = .ok (.invokevirtual 53, 3) := by decide +kernel
theorem dL_law_79 : decode cL_law 79 = .ok (.iload 6, 2) := by decide +kernel
theorem dL_law_81 : decode cL_law 81 = .ok (.if_icmp .eq 5, 3) := by decide +kernel
theorem dL_law_84 : decode cL_law 84 = .ok (.iconst 0, 1) := by decide +kernel
theorem dL_law_85 : decode cL_law 85 = .ok (.ireturn, 1) := by decide +kernel
theorem dL_law_86 : decode cL_law 86 = .ok (.iload 7, 2) := by decide +kernel
theorem dL_law_88 : decode cL_law 88 = .ok (.ifCond .ne 65, 3) := by decide +kernel
theorem dL_law_91 : decode cL_law 91 = .ok (.iload 5, 2) := by decide +kernel
theorem dL_law_93 : decode cL_law 93 = .ok (.bipush 9, 2) := by decide +kernel
theorem dL_law_95 : decode cL_law 95 = .ok (.ishr, 1) := by decide +kernel
theorem dL_law_96 : decode cL_law 96 = .ok (.iconst 1, 1) := by decide +kernel
theorem dL_law_97 : decode cL_law 97 = .ok (.iand, 1) := by decide +kernel
theorem dL_law_98 : decode cL_law 98 = .ok (.ifCond .ne 55, 3) := by decide +kernel
theorem dL_law_101 : decode cL_law 101 = .ok (.aload_n 1, 1) := by decide +kernel
theorem dL_law_102 : decode cL_law 102 = .ok (.invokevirtual 87, 3) := by decide +kernel
theorem dL_law_105 : decode cL_law 105 = .ok (.istore 9, 2) := by decide +kernel
theorem dL_law_107 : decode cL_law 107 = .ok (.iload 9, 2) := by decide +kernel
theorem dL_law_109 : decode cL_law 109 = .ok (.iload 6, 2) := by decide +kernel
theorem dL_law_111 : decode cL_law 111 = .ok (.bipush 6, 2) := by decide +kernel
theorem dL_law_113 : decode cL_law 113 = .ok (.if_icmp .ne 7, 3) := by decide +kernel
theorem dL_law_116 : decode cL_law 116 = .ok (.iconst 5, 1) := by decide +kernel
theorem dL_law_117 : decode cL_law 117 = .ok (.goto 5, 3) := by decide +kernel
theorem dL_law_120 : decode cL_law 120 = .ok (.iload 6, 2) := by decide +kernel
theorem dL_law_122 : decode cL_law 122 = .ok (.if_icmp .ne 29, 3) := by decide +kernel
theorem dL_law_125 : decode cL_law 125 = .ok (.aload_n 1, 1) := by decide +kernel
theorem dL_law_126 : decode cL_law 126 = .ok (.aload_n 2, 1) := by decide +kernel
theorem dL_law_127 : decode cL_law 127 = .ok (.invokestatic 102, 3) := by decide +kernel
theorem dL_law_130 : decode cL_law 130 = .ok (.ifCond .eq 21, 3) := by decide +kernel
theorem dL_law_133 : decode cL_law 133 = .ok (.aload_n 1, 1) := by decide +kernel
theorem dL_law_134 : decode cL_law 134 = .ok (.iload 5, 2) := by decide +kernel
theorem dL_law_136 : decode cL_law 136 = .ok (.aload_n 3, 1) := by decide +kernel
theorem dL_law_137 : decode cL_law 137 = .ok (.invokestatic 98, 3) := by decide +kernel
theorem dL_law_140 : decode cL_law 140 = .ok (.ifCond .ne 11, 3) := by decide +kernel
theorem dL_law_143 : decode cL_law 143 = .ok (.aload_n 3, 1) := by decide +kernel
theorem dL_law_144 : decode cL_law 144 = .ok (.iconst 0, 1) := by decide +kernel
theorem dL_law_145 : decode cL_law 145 = .ok (.iaload, 1) := by decide +kernel
theorem dL_law_146 : decode cL_law 146 = .ok (.iload 8, 2) := by decide +kernel
theorem dL_law_148 : decode cL_law 148 = .ok (.if_icmp .eq 5, 3) := by decide +kernel
theorem dL_law_151 : decode cL_law 151 = .ok (.iconst 0, 1) := by decide +kernel
theorem dL_law_152 : decode cL_law 152 = .ok (.ireturn, 1) := by decide +kernel
theorem dL_law_153 : decode cL_law 153 = .ok (.aload_n 2, 1) := by decide +kernel
theorem dL_law_154 : decode cL_law 154 = .ok (.iload 5, 2) := by decide +kernel
theorem dL_law_156 : decode cL_law 156 = .ok (.aload_n 3, 1) := by decide +kernel
theorem dL_law_157 : decode cL_law 157 = .ok (.invokestatic 98, 3) := by decide +kernel
theorem dL_law_160 : decode cL_law 160 = .ok (.iload 7, 2) := by decide +kernel
theorem dL_law_162 : decode cL_law 162 = .ok (.if_icmp .ne 24, 3) := by decide +kernel
theorem dL_law_165 : decode cL_law 165 = .ok (.iload 7, 2) := by decide +kernel
theorem dL_law_167 : decode cL_law 167 = .ok (.ifCond .ne 11, 3) := by decide +kernel
theorem dL_law_170 : decode cL_law 170 = .ok (.aload_n 3, 1) := by decide +kernel
theorem dL_law_171 : decode cL_law 171 = .ok (.iconst 0, 1) := by decide +kernel
theorem dL_law_172 : decode cL_law 172 = .ok (.iaload, 1) := by decide +kernel
theorem dL_law_173 : decode cL_law 173 = .ok (.iload 8, 2) := by decide +kernel
theorem dL_law_175 : decode cL_law 175 = .ok (.if_icmp .ne 11, 3) := by decide +kernel
theorem dL_law_178 : decode cL_law 178 = .ok (.aload_n 1, 1) := by decide +kernel
theorem dL_law_179 : decode cL_law 179 = .ok (.aload_n 2, 1) := by decide +kernel
theorem dL_law_180 : decode cL_law 180 = .ok (.invokestatic 102, 3) := by decide +kernel
theorem dL_law_183 : decode cL_law 183 = .ok (.ifCond .ne 5, 3) := by decide +kernel
theorem dL_law_186 : decode cL_law 186 = .ok (.iconst 0, 1) := by decide +kernel
theorem dL_law_187 : decode cL_law 187 = .ok (.ireturn, 1) := by decide +kernel
theorem dL_law_188 : decode cL_law 188 = .ok (.iload 5, 2) := by decide +kernel
theorem dL_law_190 : decode cL_law 190 = .ok (.bipush 8, 2) := by decide +kernel
theorem dL_law_192 : decode cL_law 192 = .ok (.ishr, 1) := by decide +kernel
theorem dL_law_193 : decode cL_law 193 = .ok (.bipush 12, 2) := by decide +kernel
theorem dL_law_195 : decode cL_law 195 = .ok (.invokestatic 38, 3) := by decide +kernel
theorem dL_law_198 : decode cL_law 198 = .ok (.istore 9, 2) := by decide +kernel
theorem dL_law_200 : decode cL_law 200 = .ok (.iconst 1, 1) := by decide +kernel
theorem dL_law_201 : decode cL_law 201 = .ok (.iload 5, 2) := by decide +kernel
theorem dL_law_203 : decode cL_law 203 = .ok (.bipush 11, 2) := by decide +kernel
theorem dL_law_205 : decode cL_law 205 = .ok (.ishr, 1) := by decide +kernel
theorem dL_law_206 : decode cL_law 206 = .ok (.bipush 12, 2) := by decide +kernel
theorem dL_law_208 : decode cL_law 208 = .ok (.iload 9, 2) := by decide +kernel
theorem dL_law_210 : decode cL_law 210 = .ok (.isub, 1) := by decide +kernel
theorem dL_law_211 : decode cL_law 211 = .ok (.bipush 9, 2) := by decide +kernel
theorem dL_law_213 : decode cL_law 213 = .ok (.if_icmp .ge 11, 3) := by decide +kernel
theorem dL_law_216 : decode cL_law 216 = .ok (.bipush 12, 2) := by decide +kernel
theorem dL_law_218 : decode cL_law 218 = .ok (.iload 9, 2) := by decide +kernel
theorem dL_law_220 : decode cL_law 220 = .ok (.isub, 1) := by decide +kernel
theorem dL_law_221 : decode cL_law 221 = .ok (.goto 5, 3) := by decide +kernel
theorem dL_law_224 : decode cL_law 224 = .ok (.bipush 9, 2) := by decide +kernel
theorem dL_law_226 : decode cL_law 226 = .ok (.invokestatic 38, 3) := by decide +kernel
theorem dL_law_229 : decode cL_law 229 = .ok (.iadd, 1) := by decide +kernel
theorem dL_law_230 : decode cL_law 230 = .ok (.istore 10, 2) := by decide +kernel
theorem dL_law_232 : decode cL_law 232 = .ok (.iload 4, 2) := by decide +kernel
theorem dL_law_234 : decode cL_law 234 = .ok (.iconst 2, 1) := by decide +kernel
theorem dL_law_235 : decode cL_law 235 = .ok (.irem, 1) := by decide +kernel
theorem dL_law_236 : decode cL_law 236 = .ok (.iconst 1, 1) := by decide +kernel
theorem dL_law_237 : decode cL_law 237 = .ok (.if_icmp .ne 82, 3) := by decide +kernel
theorem dL_law_240 : decode cL_law 240 = .ok (.aload_n 1, 1) := by decide +kernel
theorem dL_law_241 : decode cL_law 241 = .ok (.invokestatic 106, 3) := by decide +kernel
theorem dL_law_244 : decode cL_law 244 = .ok (.ifCond .eq 73, 3) := by decide +kernel
theorem dL_law_247 : decode cL_law 247 = .ok (.aload_n 1, 1) := by decide +kernel
theorem dL_law_248 : decode cL_law 248 = .ok (.iload 5, 2) := by decide +kernel
theorem dL_law_250 : decode cL_law 250 = .ok (.bipush 6, 2) := by decide +kernel
theorem dL_law_252 : decode cL_law 252 = .ok (.ishr, 1) := by decide +kernel
theorem dL_law_253 : decode cL_law 253 = .ok (.iload 5, 2) := by decide +kernel
theorem dL_law_255 : decode cL_law 255 = .ok (.bipush 20, 2) := by decide +kernel
theorem dL_law_257 : decode cL_law 257 = .ok (.ishr, 1) := by decide +kernel
theorem dL_law_258 : decode cL_law 258 = .ok (.iconst 1, 1) := by decide +kernel
theorem dL_law_259 : decode cL_law 259 = .ok (.iand, 1) := by decide +kernel
theorem dL_law_260 : decode cL_law 260 = .ok (.ifCond .ne 8, 3) := by decide +kernel
theorem dL_law_263 : decode cL_law 263 = .ok (.bipush 10, 2) := by decide +kernel
theorem dL_law_265 : decode cL_law 265 = .ok (.goto 4, 3) := by decide +kernel
theorem dL_law_268 : decode cL_law 268 = .ok (.iconst 3, 1) := by decide +kernel
theorem dL_law_269 : decode cL_law 269 = .ok (.invokestatic 38, 3) := by decide +kernel
theorem dL_law_272 : decode cL_law 272 = .ok (.iload 9, 2) := by decide +kernel
theorem dL_law_274 : decode cL_law 274 = .ok (.iload 10, 2) := by decide +kernel
theorem dL_law_276 : decode cL_law 276 = .ok (.invokestatic 110, 3) := by decide +kernel
theorem dL_law_279 : decode cL_law 279 = .ok (.ifCond .eq 38, 3) := by decide +kernel
theorem dL_law_282 : decode cL_law 282 = .ok (.aload_n 1, 1) := by decide +kernel
theorem dL_law_283 : decode cL_law 283 = .ok (.iload 5, 2) := by decide +kernel
theorem dL_law_285 : decode cL_law 285 = .ok (.bipush 7, 2) := by decide +kernel
theorem dL_law_287 : decode cL_law 287 = .ok (.ishr, 1) := by decide +kernel
theorem dL_law_288 : decode cL_law 288 = .ok (.bipush 10, 2) := by decide +kernel
theorem dL_law_290 : decode cL_law 290 = .ok (.invokestatic 38, 3) := by decide +kernel
theorem dL_law_293 : decode cL_law 293 = .ok (.iload 5, 2) := by decide +kernel
theorem dL_law_295 : decode cL_law 295 = .ok (.bipush 10, 2) := by decide +kernel
theorem dL_law_297 : decode cL_law 297 = .ok (.ishr, 1) := by decide +kernel
theorem dL_law_298 : decode cL_law 298 = .ok (.bipush 12, 2) := by decide +kernel
theorem dL_law_300 : decode cL_law 300 = .ok (.invokestatic 38, 3) := by decide +kernel
theorem dL_law_303 : decode cL_law 303 = .ok (.invokestatic 113, 3) := by decide +kernel
theorem dL_law_306 : decode cL_law 306 = .ok (.ifCond .eq 11, 3) := by decide +kernel
theorem dL_law_309 : decode cL_law 309 = .ok (.aload_n 1, 1) := by decide +kernel
theorem dL_law_310 : decode cL_law 310 = .ok (.aload_n 2, 1) := by decide +kernel
theorem dL_law_311 : decode cL_law 311 = .ok (.invokestatic 102, 3) := by decide +kernel
theorem dL_law_314 : decode cL_law 314 = .ok (.ifCond .ne 5, 3) := by decide +kernel
theorem dL_law_317 : decode cL_law 317 = .ok (.iconst 0, 1) := by decide +kernel
theorem dL_law_318 : decode cL_law 318 = .ok (.ireturn, 1) := by decide +kernel
theorem dL_law_319 : decode cL_law 319 = .ok (.iinc 4 1, 3) := by decide +kernel
theorem dL_law_322 : decode cL_law 322 = .ok (.goto (-299), 3) := by decide +kernel
theorem dL_law_325 : decode cL_law 325 = .ok (.aload_n 1, 1) := by decide +kernel
theorem dL_law_326 : decode cL_law 326 = .ok (.invokestatic 106, 3) := by decide +kernel
theorem dL_law_329 : decode cL_law 329 = .ok (.ireturn, 1) := by decide +kernel
