theorem dL_folds_159 : decode cL_folds 159 = .ok (.istore_n 3, 1) := by decide +kernel
theorem dL_folds_160 : decode cL_folds 160 = .ok (.iload 4, 2) := by decide +kernel
theorem dL_folds_162 : decode cL_folds 162 = .ok (.iload 6, 2) := by decide +kernel
theorem dL_folds_164 : decode cL_folds 164 = .ok (.invokestatic 159, 3) := by decide +kernel
theorem dL_folds_167 : decode cL_folds 167 = .ok (.istore 4, 2) := by decide +kernel
theorem dL_folds_169 : decode cL_folds 169 = .ok (.aload_n 0, 1) := by decide +kernel
theorem dL_folds_170 : decode cL_folds 170 = .ok (.iload_n 2, 1) := by decide +kernel
theorem dL_folds_171 : decode cL_folds 171 = .ok (.ifCond .ne 7, 3) := by decide +kernel
theorem dL_folds_174 : decode cL_folds 174 = .ok (.iconst 1, 1) := by decide +kernel
theorem dL_folds_175 : decode cL_folds 175 = .ok (.goto 4, 3) := by decide +kernel
theorem dL_folds_178 : decode cL_folds 178 = .ok (.iconst 0, 1) := by decide +kernel
theorem dL_folds_179 : decode cL_folds 179 = .ok (.iload 5, 2) := by decide +kernel
theorem dL_folds_181 : decode cL_folds 181 = .ok (.invokestatic 267, 3) := by decide +kernel
theorem dL_folds_184 : decode cL_folds 184 = .ok (.iload 6, 2) := by decide +kernel
theorem dL_folds_186 : decode cL_folds 186 = .ok (.if_icmp .ne 23, 3) := by decide +kernel
theorem dL_folds_189 : decode cL_folds 189 = .ok (.aload_n 0, 1) := by decide +kernel
theorem dL_folds_190 : decode cL_folds 190 = .ok (.iload_n 2, 1) := by decide +kernel
theorem dL_folds_191 : decode cL_folds 191 = .ok (.ifCond .ne 7, 3) := by decide +kernel
theorem dL_folds_194 : decode cL_folds 194 = .ok (.iconst 1, 1) := by decide +kernel
theorem dL_folds_195 : decode cL_folds 195 = .ok (.goto 4, 3) := by decide +kernel
theorem dL_folds_198 : decode cL_folds 198 = .ok (.iconst 0, 1) := by decide +kernel
theorem dL_folds_199 : decode cL_folds 199 = .ok (.iload 5, 2) := by decide +kernel
theorem dL_folds_201 : decode cL_folds 201 = .ok (.invokestatic 270, 3) := by decide +kernel
theorem dL_folds_204 : decode cL_folds 204 = .ok (.iload 6, 2) := by decide +kernel
theorem dL_folds_206 : decode cL_folds 206 = .ok (.if_icmp .eq 5, 3) := by decide +kernel
theorem dL_folds_209 : decode cL_folds 209 = .ok (.iconst 0, 1) := by decide +kernel
theorem dL_folds_210 : decode cL_folds 210 = .ok (.ireturn, 1) := by decide +kernel
theorem dL_folds_211 : decode cL_folds 211 = .ok (.iinc 5 1, 3) := by decide +kernel
theorem dL_folds_214 : decode cL_folds 214 = .ok (.goto (-192), 3) := by decide +kernel
theorem dL_folds_217 : decode cL_folds 217 = .ok (.aload_n 0, 1) := by decide +kernel
theorem dL_folds_218 : decode cL_folds 218 = .ok (.iload_n 2, 1) := by decide +kernel
theorem dL_folds_219 : decode cL_folds 219 = .ok (.ifCond .ne 7, 3) := by decide +kernel
theorem dL_folds_222 : decode cL_folds 222 = .ok (.iconst 1, 1) := by decide +kernel
theorem dL_folds_223 : decode cL_folds 223 = .ok (.goto 4, 3) := by decide +kernel
theorem dL_folds_226 : decode cL_folds 226 = .ok (.iconst 0, 1) := by decide +kernel
theorem dL_folds_227 : decode cL_folds 227 = .ok (.invokevirtual 272, 3) := by decide +kernel
theorem dL_folds_230 : decode cL_folds 230 = .ok (.iload_n 3, 1) := by decide +kernel
theorem dL_folds_231 : decode cL_folds 231 = .ok (.if_icmp .eq 5, 3) := by decide +kernel
theorem dL_folds_234 : decode cL_folds 234 = .ok (.iconst 0, 1) := by decide +kernel
theorem dL_folds_235 : decode cL_folds 235 = .ok (.ireturn, 1) := by decide +kernel
theorem dL_folds_236 : decode cL_folds 236 = .ok (.iinc 2 1, 3) := by decide +kernel
theorem dL_folds_239 : decode cL_folds 239 = .ok (.goto (-232), 3) := by decide +kernel
theorem dL_folds_242 : decode cL_folds 242 = .ok (.aload_n 0, 1) := by decide +kernel
theorem dL_folds_243 : decode cL_folds 243 = .ok (.iconst 1, 1) := by decide +kernel
theorem dL_folds_244 : decode cL_folds 244 = .ok (.iconst 0, 1) := by decide +kernel
theorem dL_folds_245 : decode cL_folds 245 = .ok (.invokestatic 267, 3) := by decide +kernel
theorem dL_folds_248 : decode cL_folds 248 = .ok (.bipush (-12), 2) := by decide +kernel
theorem dL_folds_250 : decode cL_folds 250 = .ok (.if_icmp .ne 31, 3) := by decide +kernel
theorem dL_folds_253 : decode cL_folds 253 = .ok (.aload_n 0, 1) := by decide +kernel
theorem dL_folds_254 : decode cL_folds 254 = .ok (.iconst 0, 1) := by decide +kernel
theorem dL_folds_255 : decode cL_folds 255 = .ok (.bipush 8, 2) := by decide +kernel
theorem dL_folds_257 : decode cL_folds 257 = .ok (.invokestatic 267, 3) := by decide +kernel
theorem dL_folds_260 : decode cL_folds 260 = .ok (.bipush (-12), 2) := by decide +kernel
theorem dL_folds_262 : decode cL_folds 262 = .ok (.if_icmp .ne 19, 3) := by decide +kernel
theorem dL_folds_265 : decode cL_folds 265 = .ok (.aload_n 0, 1) := by decide +kernel
theorem dL_folds_266 : decode cL_folds 266 = .ok (.iconst 1, 1) := by decide +kernel
theorem dL_folds_267 : decode cL_folds 267 = .ok (.bipush 8, 2) := by decide +kernel
theorem dL_folds_269 : decode cL_folds 269 = .ok (.invokestatic 270, 3) := by decide +kernel
theorem dL_folds_272 : decode cL_folds 272 = .ok (.bipush (-12), 2) := by decide +kernel
theorem dL_folds_274 : decode cL_folds 274 = .ok (.if_icmp .ne 7, 3) := by decide +kernel
theorem dL_folds_277 : decode cL_folds 277 = .ok (.iconst 1, 1) := by decide +kernel
theorem dL_folds_278 : decode cL_folds 278 = .ok (.goto 4, 3) := by decide +kernel
theorem dL_folds_281 : decode cL_folds 281 = .ok (.iconst 0, 1) := by decide +kernel
theorem dL_folds_282 : decode cL_folds 282 = .ok (.ireturn, 1) := by decide +kernel
theorem dL_wrong_0 : decode cL_wrong 0 = .ok (.iconst 0, 1) := by decide +kernel
theorem dL_wrong_1 : decode cL_wrong 1 = .ok (.istore_n 2, 1) := by decide +kernel
theorem dL_wrong_2 : decode cL_wrong 2 = .ok (.iconst 0, 1) := by decide +kernel
theorem dL_wrong_3 : decode cL_wrong 3 = .ok (.istore_n 3, 1) := by decide +kernel
theorem dL_wrong_4 : decode cL_wrong 4 = .ok (.iload_n 3, 1) := by decide +kernel
theorem dL_wrong_5 : decode cL_wrong 5 = .ok (.aload_n 0, 1) := by decide +kernel
theorem dL_wrong_6 : decode cL_wrong 6 = .ok (.iconst 1, 1) := by decide +kernel
theorem dL_wrong_7 : decode cL_wrong 7 = .ok (.invokevirtual 255, 3) := by decide +kernel
theorem dL_wrong_10 : decode cL_wrong 10 = .ok (.if_icmp .ge 30, 3) := by decide +kernel
theorem dL_wrong_13 : decode cL_wrong 13 = .ok (.iload_n 2, 1) := by decide +kernel
theorem dL_wrong_14 : decode cL_wrong 14 = .ok (.aload_n 0, 1) := by decide +kernel
theorem dL_wrong_15 : decode cL_wrong 15 = .ok (.iload_n 3, 1) := by decide +kernel
theorem dL_wrong_16 : decode cL_wrong 16 = .ok (.iconst 3, 1) := by decide +kernel
theorem dL_wrong_17 : decode cL_wrong 17 = .ok (.invokestatic 276, 3) := by decide +kernel
theorem dL_wrong_20 : decode cL_wrong 20 = .ok (.iload_n 1, 1) := by decide +kernel
theorem dL_wrong_21 : decode cL_wrong 21 = .ok (.aload_n 0, 1) := by decide +kernel
theorem dL_wrong_22 : decode cL_wrong 22 = .ok (.iload_n 3, 1) := by decide +kernel
theorem dL_wrong_23 : decode cL_wrong 23 = .ok (.iconst 1, 1) := by decide +kernel
theorem dL_wrong_24 : decode cL_wrong 24 = .ok (.invokestatic 276, 3) := by decide +kernel
theorem dL_wrong_27 : decode cL_wrong 27 = .ok (.imul, 1) := by decide +kernel
theorem dL_wrong_28 : decode cL_wrong 28 = .ok (.isub, 1) := by decide +kernel
theorem dL_wrong_29 : decode cL_wrong 29 = .ok (.invokestatic 197, 3) := by decide +kernel
theorem dL_wrong_32 : decode cL_wrong 32 = .ok (.iadd, 1) := by decide +kernel
theorem dL_wrong_33 : decode cL_wrong 33 = .ok (.istore_n 2, 1) := by decide +kernel
theorem dL_wrong_34 : decode cL_wrong 34 = .ok (.iinc 3 1, 3) := by decide +kernel
theorem dL_wrong_37 : decode cL_wrong 37 = .ok (.goto (-33), 3) := by decide +kernel
theorem dL_wrong_40 : decode cL_wrong 40 = .ok (.iload_n 2, 1) := by decide +kernel
theorem dL_wrong_41 : decode cL_wrong 41 = .ok (.ireturn, 1) := by decide +kernel
theorem dL_rivers_0 : decode cL_rivers 0 = .ok (.aload_n 0, 1) := by decide +kernel
theorem dL_rivers_1 : decode cL_rivers 1 = .ok (.iconst 1, 1) := by decide +kernel
theorem dL_rivers_2 : decode cL_rivers 2 = .ok (.invokevirtual 255, 3) := by decide +kernel
theorem dL_rivers_5 : decode cL_rivers 5 = .ok (.istore_n 1, 1) := by decide +kernel
theorem dL_rivers_6 : decode cL_rivers 6 = .ok (.aload_n 0, 1) := by decide +kernel
theorem dL_rivers_7 : decode cL_rivers 7 = .ok (.invokestatic 227, 3) := by decide +kernel
theorem dL_rivers_10 : decode cL_rivers 10 = .ok (.astore_n 2, 1) := by decide +kernel
theorem dL_rivers_11 : decode cL_rivers 11 = .ok (.iconst 4, 1) := by decide +kernel
theorem dL_rivers_12 : decode cL_rivers 12 = .ok (.newarray .int, 2) := by decide +kernel
theorem dL_rivers_14 : decode cL_rivers 14 = .ok (.astore_n 3, 1) := by decide +kernel
theorem dL_rivers_15 : decode cL_rivers 15 = .ok (.iconst 0, 1) := by decide +kernel
theorem dL_rivers_16 : decode cL_rivers 16 = .ok (.istore 4, 2) := by decide +kernel
theorem dL_rivers_18 : decode cL_rivers 18 = .ok (.iload 4, 2) := by decide +kernel
theorem dL_rivers_20 : decode cL_rivers 20 = .ok (.iload_n 1, 1) := by decide +kernel
theorem dL_rivers_21 : decode cL_rivers 21 = .ok (.if_icmp .ge 358, 3) := by decide +kernel
theorem dL_rivers_24 : decode cL_rivers 24 = .ok (.aload_n 0, 1) := by decide +kernel
theorem dL_rivers_25 : decode cL_rivers 25 = .ok (.iload 4, 2) := by decide +kernel
theorem dL_rivers_27 : decode cL_rivers 27 = .ok (.iconst 1, 1) := by decide +kernel
theorem dL_rivers_28 : decode cL_rivers 28 = .ok (.invokestatic 276, 3) := by decide +kernel
theorem dL_rivers_31 : decode cL_rivers 31 = .ok (.istore 5, 2) := by decide +kernel
theorem dL_rivers_33 : decode cL_rivers 33 = .ok (.iconst 0, 1) := by decide +kernel
theorem dL_rivers_34 : decode cL_rivers 34 = .ok (.istore 6, 2) := by decide +kernel
theorem dL_rivers_36 : decode cL_rivers 36 = .ok (.iconst 0, 1) := by decide +kernel
theorem dL_rivers_37 : decode cL_rivers 37 = .ok (.istore 7, 2) := by decide +kernel
theorem dL_rivers_39 : decode cL_rivers 39 = .ok (.iconst 0, 1) := by decide +kernel
theorem dL_rivers_40 : decode cL_rivers 40 = .ok (.istore 8, 2) := by decide +kernel
theorem dL_rivers_42 : decode cL_rivers 42 = .ok (.iconst 0, 1) := by decide +kernel
theorem dL_rivers_43 : decode cL_rivers 43 = .ok (.istore 9, 2) := by decide +kernel
theorem dL_rivers_45 : decode cL_rivers 45 = .ok (.iload 9, 2) := by decide +kernel
theorem dL_rivers_47 : decode cL_rivers 47 = .ok (.iload 5, 2) := by decide +kernel
theorem dL_rivers_49 : decode cL_rivers 49 = .ok (.if_icmp .gt 154, 3) := by decide +kernel
theorem dL_rivers_52 : decode cL_rivers 52 = .ok (.aload_n 0, 1) := by decide +kernel
theorem dL_rivers_53 : decode cL_rivers 53 = .ok (.iload 4, 2) := by decide +kernel
theorem dL_rivers_55 : decode cL_rivers 55 = .ok (.iload 9, 2) := by decide +kernel
theorem dL_rivers_57 : decode cL_rivers 57 = .ok (.invokestatic 278, 3) := by decide +kernel
theorem dL_rivers_60 : decode cL_rivers 60 = .ok (.istore 10, 2) := by decide +kernel
theorem dL_rivers_62 : decode cL_rivers 62 = .ok (.iload 10, 2) := by decide +kernel
theorem dL_rivers_64 : decode cL_rivers 64 = .ok (.ifCond .lt 10, 3) := by decide +kernel
theorem dL_rivers_67 : decode cL_rivers 67 = .ok (.iload 10, 2) := by decide +kernel
theorem dL_rivers_69 : decode cL_rivers 69 = .ok (.bipush 63, 2) := by decide +kernel
theorem dL_rivers_71 : decode cL_rivers 71 = .ok (.if_icmp .le 5, 3) := by decide +kernel
theorem dL_rivers_74 : decode cL_rivers 74 = .ok (.iconst 0, 1) := by decide +kernel
theorem dL_rivers_75 : decode cL_rivers 75 = .ok (.ireturn, 1) := by decide +kernel
theorem dL_rivers_76 : decode cL_rivers 76 = .ok (.iload 9, 2) := by decide +kernel
theorem dL_rivers_78 : decode cL_rivers 78 = .ok (.ifCond .le 26, 3) := by decide +kernel
theorem dL_rivers_81 : decode cL_rivers 81 = .ok (.aload_n 2, 1) := by decide +kernel
theorem dL_rivers_82 : decode cL_rivers 82 = .ok (.iload 10, 2) := by decide +kernel
theorem dL_rivers_84 : decode cL_rivers 84 = .ok (.iaload, 1) := by decide +kernel
theorem dL_rivers_85 : decode cL_rivers 85 = .ok (.aload_n 2, 1) := by decide +kernel
theorem dL_rivers_86 : decode cL_rivers 86 = .ok (.aload_n 0, 1) := by decide +kernel
theorem dL_rivers_87 : decode cL_rivers 87 = .ok (.iload 4, 2) := by decide +kernel
theorem dL_rivers_89 : decode cL_rivers 89 = .ok (.iload 9, 2) := by decide +kernel
theorem dL_rivers_91 : decode cL_rivers 91 = .ok (.iconst 1, 1) := by decide +kernel
theorem dL_rivers_92 : decode cL_rivers 92 = .ok (.isub, 1) := by decide +kernel
theorem dL_rivers_93 : decode cL_rivers 93 = .ok (.invokestatic 278, 3) := by decide +kernel
theorem dL_rivers_96 : decode cL_rivers 96 = .ok (.iaload, 1) := by decide +kernel
theorem dL_rivers_97 : decode cL_rivers 97 = .ok (.if_icmp .eq 7, 3) := by decide +kernel
theorem dL_rivers_100 : decode cL_rivers 100 = .ok (.iconst 1, 1) := by decide +kernel
theorem dL_rivers_101 : decode cL_rivers 101 = .ok (.goto 4, 3) := by decide +kernel
theorem dL_rivers_104 : decode cL_rivers 104 = .ok (.iconst 0, 1) := by decide +kernel
theorem dL_rivers_105 : decode cL_rivers 105 = .ok (.istore 11, 2) := by decide +kernel
theorem dL_rivers_107 : decode cL_rivers 107 = .ok (.iload 9, 2) := by decide +kernel
theorem dL_rivers_109 : decode cL_rivers 109 = .ok (.ifCond .le 23, 3) := by decide +kernel
theorem dL_rivers_112 : decode cL_rivers 112 = .ok (.iload 10, 2) := by decide +kernel
theorem dL_rivers_114 : decode cL_rivers 114 = .ok (.aload_n 0, 1) := by decide +kernel
theorem dL_rivers_115 : decode cL_rivers 115 = .ok (.iload 4, 2) := by decide +kernel
theorem dL_rivers_117 : decode cL_rivers 117 = .ok (.iload 9, 2) := by decide +kernel
theorem dL_rivers_119 : decode cL_rivers 119 = .ok (.iconst 1, 1) := by decide +kernel
theorem dL_rivers_120 : decode cL_rivers 120 = .ok (.isub, 1) := by decide +kernel
theorem dL_rivers_121 : decode cL_rivers 121 = .ok (.invokestatic 278, 3) := by decide +kernel
theorem dL_rivers_124 : decode cL_rivers 124 = .ok (.invokestatic 200, 3) := by decide +kernel
theorem dL_rivers_127 : decode cL_rivers 127 = .ok (.ifCond .ne 5, 3) := by decide +kernel
theorem dL_rivers_130 : decode cL_rivers 130 = .ok (.iconst 0, 1) := by decide +kernel
theorem dL_rivers_131 : decode cL_rivers 131 = .ok (.ireturn, 1) := by decide +kernel
theorem dL_rivers_132 : decode cL_rivers 132 = .ok (.iload 7, 2) := by decide +kernel
theorem dL_rivers_134 : decode cL_rivers 134 = .ok (.iload 11, 2) := by decide +kernel
theorem dL_rivers_136 : decode cL_rivers 136 = .ok (.ifCond .eq 7, 3) := by decide +kernel
theorem dL_rivers_139 : decode cL_rivers 139 = .ok (.iconst 1, 1) := by decide +kernel
theorem dL_rivers_140 : decode cL_rivers 140 = .ok (.goto 4, 3) := by decide +kernel
theorem dL_rivers_143 : decode cL_rivers 143 = .ok (.iconst 0, 1) := by decide +kernel
theorem dL_rivers_144 : decode cL_rivers 144 = .ok (.iadd, 1) := by decide +kernel
theorem dL_rivers_145 : decode cL_rivers 145 = .ok (.istore 7, 2) := by decide +kernel
theorem dL_rivers_147 : decode cL_rivers 147 = .ok (.iload 6, 2) := by decide +kernel
theorem dL_rivers_149 : decode cL_rivers 149 = .ok (.aload_n 2, 1) := by decide +kernel
theorem dL_rivers_150 : decode cL_rivers 150 = .ok (.iload 10, 2) := by decide +kernel
theorem dL_rivers_152 : decode cL_rivers 152 = .ok (.iaload, 1) := by decide +kernel
theorem dL_rivers_153 : decode cL_rivers 153 = .ok (.ifCond .ge 7, 3) := by decide +kernel
theorem dL_rivers_156 : decode cL_rivers 156 = .ok (.iconst 1, 1) := by decide +kernel
theorem dL_rivers_157 : decode cL_rivers 157 = .ok (.goto 4, 3) := by decide +kernel
theorem dL_rivers_160 : decode cL_rivers 160 = .ok (.iconst 2, 1) := by decide +kernel
theorem dL_rivers_161 : decode cL_rivers 161 = .ok (.iload 11, 2) := by decide +kernel
theorem dL_rivers_163 : decode cL_rivers 163 = .ok (.ifCond .eq 7, 3) := by decide +kernel
theorem dL_rivers_166 : decode cL_rivers 166 = .ok (.iconst 3, 1) := by decide +kernel
theorem dL_rivers_167 : decode cL_rivers 167 = .ok (.goto 4, 3) := by decide +kernel
theorem dL_rivers_170 : decode cL_rivers 170 = .ok (.iconst 0, 1) := by decide +kernel
theorem dL_rivers_171 : decode cL_rivers 171 = .ok (.iadd, 1) := by decide +kernel
theorem dL_rivers_172 : decode cL_rivers 172 = .ok (.iadd, 1) := by decide +kernel
theorem dL_rivers_173 : decode cL_rivers 173 = .ok (.istore 6, 2) := by decide +kernel
theorem dL_rivers_175 : decode cL_rivers 175 = .ok (.iload 8, 2) := by decide +kernel
theorem dL_rivers_177 : decode cL_rivers 177 = .ok (.aload_n 2, 1) := by decide +kernel
theorem dL_rivers_178 : decode cL_rivers 178 = .ok (.iload 10, 2) := by decide +kernel
theorem dL_rivers_180 : decode cL_rivers 180 = .ok (.iaload, 1) := by decide +kernel
theorem dL_rivers_181 : decode cL_rivers 181 = .ok (.ifCond .ge 7, 3) := by decide +kernel
theorem dL_rivers_184 : decode cL_rivers 184 = .ok (.iconst 0, 1) := by decide +kernel
theorem dL_rivers_185 : decode cL_rivers 185 = .ok (.goto 9, 3) := by decide +kernel
theorem dL_rivers_188 : decode cL_rivers 188 = .ok (.iconst 1, 1) := by decide +kernel
theorem dL_rivers_189 : decode cL_rivers 189 = .ok (.aload_n 2, 1) := by decide +kernel
theorem dL_rivers_190 : decode cL_rivers 190 = .ok (.iload 10, 2) := by decide +kernel
theorem dL_rivers_192 : decode cL_rivers 192 = .ok (.iaload, 1) := by decide +kernel
theorem dL_rivers_193 : decode cL_rivers 193 = .ok (.ishl, 1) := by decide +kernel
theorem dL_rivers_194 : decode cL_rivers 194 = .ok (.ior, 1) := by decide +kernel
theorem dL_rivers_195 : decode cL_rivers 195 = .ok (.istore 8, 2) := by decide +kernel
theorem dL_rivers_197 : decode cL_rivers 197 = .ok (.iinc 9 1, 3) := by decide +kernel
theorem dL_rivers_200 : decode cL_rivers 200 = .ok (.goto (-155), 3) := by decide +kernel
theorem dL_rivers_203 : decode cL_rivers 203 = .ok (.iconst 0, 1) := by decide +kernel
theorem dL_rivers_204 : decode cL_rivers 204 = .ok (.istore 9, 2) := by decide +kernel
theorem dL_rivers_206 : decode cL_rivers 206 = .ok (.iload 9, 2) := by decide +kernel
theorem dL_rivers_208 : decode cL_rivers 208 = .ok (.iconst 4, 1) := by decide +kernel
theorem dL_rivers_209 : decode cL_rivers 209 = .ok (.if_icmp .ge 23, 3) := by decide +kernel
theorem dL_rivers_212 : decode cL_rivers 212 = .ok (.aload_n 3, 1) := by decide +kernel
theorem dL_rivers_213 : decode cL_rivers 213 = .ok (.iload 9, 2) := by decide +kernel
theorem dL_rivers_215 : decode cL_rivers 215 = .ok (.dup2, 1) := by decide +kernel
theorem dL_rivers_216 : decode cL_rivers 216 = .ok (.iaload, 1) := by decide +kernel
theorem dL_rivers_217 : decode cL_rivers 217 = .ok (.iload 8, 2) := by decide +kernel
theorem dL_rivers_219 : decode cL_rivers 219 = .ok (.iload 9, 2) := by decide +kernel
theorem dL_rivers_221 : decode cL_rivers 221 = .ok (.ishr, 1) := by decide +kernel
theorem dL_rivers_222 : decode cL_rivers 222 = .ok (.iconst 1, 1) := by decide +kernel
theorem dL_rivers_223 : decode cL_rivers 223 = .ok (.iand, 1) := by decide +kernel
theorem dL_rivers_224 : decode cL_rivers 224 = .ok (.iadd, 1) := by decide +kernel
theorem dL_rivers_225 : decode cL_rivers 225 = .ok (.iastore, 1) := by decide +kernel
theorem dL_rivers_226 : decode cL_rivers 226 = .ok (.iinc 9 1, 3) := by decide +kernel
theorem dL_rivers_229 : decode cL_rivers 229 = .ok (.goto (-23), 3) := by decide +kernel
theorem dL_rivers_232 : decode cL_rivers 232 = .ok (.aload_n 0, 1) := by decide +kernel
theorem dL_rivers_233 : decode cL_rivers 233 = .ok (.iload 4, 2) := by decide +kernel
theorem dL_rivers_235 : decode cL_rivers 235 = .ok (.invokestatic 280, 3) := by decide +kernel
theorem dL_rivers_238 : decode cL_rivers 238 = .ok (.iload 6, 2) := by decide +kernel
theorem dL_rivers_240 : decode cL_rivers 240 = .ok (.if_icmp .ne 123, 3) := by decide +kernel
theorem dL_rivers_243 : decode cL_rivers 243 = .ok (.aload_n 0, 1) := by decide +kernel
theorem dL_rivers_244 : decode cL_rivers 244 = .ok (.iload 4, 2) := by decide +kernel
theorem dL_rivers_246 : decode cL_rivers 246 = .ok (.invokestatic 282, 3) := by decide +kernel
theorem dL_rivers_249 : decode cL_rivers 249 = .ok (.iload 6, 2) := by decide +kernel
theorem dL_rivers_251 : decode cL_rivers 251 = .ok (.if_icmp .ne 112, 3) := by decide +kernel
theorem dL_rivers_254 : decode cL_rivers 254 = .ok (.aload_n 0, 1) := by decide +kernel
theorem dL_rivers_255 : decode cL_rivers 255 = .ok (.iload 4, 2) := by decide +kernel
theorem dL_rivers_257 : decode cL_rivers 257 = .ok (.iconst 5, 1) := by decide +kernel
theorem dL_rivers_258 : decode cL_rivers 258 = .ok (.invokestatic 276, 3) := by decide +kernel
theorem dL_rivers_261 : decode cL_rivers 261 = .ok (.iload 7, 2) := by decide +kernel
theorem dL_rivers_263 : decode cL_rivers 263 = .ok (.if_icmp .ne 100, 3) := by decide +kernel
theorem dL_rivers_266 : decode cL_rivers 266 = .ok (.aload_n 0, 1) := by decide +kernel
theorem dL_rivers_267 : decode cL_rivers 267 = .ok (.iload 4, 2) := by decide +kernel
theorem dL_rivers_269 : decode cL_rivers 269 = .ok (.iconst 0, 1) := by decide +kernel
theorem dL_rivers_270 : decode cL_rivers 270 = .ok (.invokestatic 276, 3) := by decide +kernel
theorem dL_rivers_273 : decode cL_rivers 273 = .ok (.aload_n 0, 1) := by decide +kernel
theorem dL_rivers_274 : decode cL_rivers 274 = .ok (.iload 4, 2) := by decide +kernel
theorem dL_rivers_276 : decode cL_rivers 276 = .ok (.iconst 0, 1) := by decide +kernel
theorem dL_rivers_277 : decode cL_rivers 277 = .ok (.invokestatic 278, 3) := by decide +kernel
theorem dL_rivers_280 : decode cL_rivers 280 = .ok (.if_icmp .ne 83, 3) := by decide +kernel
theorem dL_rivers_283 : decode cL_rivers 283 = .ok (.aload_n 0, 1) := by decide +kernel
theorem dL_rivers_284 : decode cL_rivers 284 = .ok (.iload 4, 2) := by decide +kernel
theorem dL_rivers_286 : decode cL_rivers 286 = .ok (.iconst 2, 1) := by decide +kernel
theorem dL_rivers_287 : decode cL_rivers 287 = .ok (.invokestatic 276, 3) := by decide +kernel
theorem dL_rivers_290 : decode cL_rivers 290 = .ok (.aload_n 0, 1) := by decide +kernel
theorem dL_rivers_291 : decode cL_rivers 291 = .ok (.iload 4, 2) := by decide +kernel
theorem dL_rivers_293 : decode cL_rivers 293 = .ok (.iload 5, 2) := by decide +kernel
theorem dL_rivers_295 : decode cL_rivers 295 = .ok (.invokestatic 278, 3) := by decide +kernel
theorem dL_rivers_298 : decode cL_rivers 298 = .ok (.if_icmp .ne 65, 3) := by decide +kernel
theorem dL_rivers_301 : decode cL_rivers 301 = .ok (.aload_n 0, 1) := by decide +kernel
theorem dL_rivers_302 : decode cL_rivers 302 = .ok (.iload 4, 2) := by decide +kernel
theorem dL_rivers_304 : decode cL_rivers 304 = .ok (.iconst 4, 1) := by decide +kernel
theorem dL_rivers_305 : decode cL_rivers 305 = .ok (.invokestatic 276, 3) := by decide +kernel
theorem dL_rivers_308 : decode cL_rivers 308 = .ok (.iload 5, 2) := by decide +kernel
theorem dL_rivers_310 : decode cL_rivers 310 = .ok (.aload_n 0, 1) := by decide +kernel
theorem dL_rivers_311 : decode cL_rivers 311 = .ok (.iconst 4, 1) := by decide +kernel
theorem dL_rivers_312 : decode cL_rivers 312 = .ok (.invokevirtual 255, 3) := by decide +kernel
theorem dL_rivers_315 : decode cL_rivers 315 = .ok (.imul, 1) := by decide +kernel
theorem dL_rivers_316 : decode cL_rivers 316 = .ok (.if_icmp .ne 47, 3) := by decide +kernel
theorem dL_rivers_319 : decode cL_rivers 319 = .ok (.aload_n 0, 1) := by decide +kernel
theorem dL_rivers_320 : decode cL_rivers 320 = .ok (.iload 4, 2) := by decide +kernel
theorem dL_rivers_322 : decode cL_rivers 322 = .ok (.iload 5, 2) := by decide +kernel
theorem dL_rivers_324 : decode cL_rivers 324 = .ok (.iconst 1, 1) := by decide +kernel
theorem dL_rivers_325 : decode cL_rivers 325 = .ok (.iadd, 1) := by decide +kernel
theorem dL_rivers_326 : decode cL_rivers 326 = .ok (.invokestatic 278, 3) := by decide +kernel
theorem dL_rivers_329 : decode cL_rivers 329 = .ok (.bipush (-15), 2) := by decide +kernel
theorem dL_rivers_331 : decode cL_rivers 331 = .ok (.if_icmp .ne 32, 3) := by decide +kernel
theorem dL_rivers_334 : decode cL_rivers 334 = .ok (.aload_n 0, 1) := by decide +kernel
theorem dL_rivers_335 : decode cL_rivers 335 = .ok (.iload 4, 2) := by decide +kernel
theorem dL_rivers_337 : decode cL_rivers 337 = .ok (.iconst (-1), 1) := by decide +kernel
theorem dL_rivers_338 : decode cL_rivers 338 = .ok (.invokestatic 278, 3) := by decide +kernel
theorem dL_rivers_341 : decode cL_rivers 341 = .ok (.bipush (-15), 2) := by decide +kernel
theorem dL_rivers_343 : decode cL_rivers 343 = .ok (.if_icmp .ne 20, 3) := by decide +kernel
theorem dL_rivers_346 : decode cL_rivers 346 = .ok (.aload_n 0, 1) := by decide +kernel
theorem dL_rivers_347 : decode cL_rivers 347 = .ok (.iload 4, 2) := by decide +kernel
theorem dL_rivers_349 : decode cL_rivers 349 = .ok (.bipush 6, 2) := by decide +kernel
theorem dL_rivers_351 : decode cL_rivers 351 = .ok (.invokestatic 276, 3) := by decide +kernel
theorem dL_rivers_354 : decode cL_rivers 354 = .ok (.bipush (-12), 2) := by decide +kernel
theorem dL_rivers_356 : decode cL_rivers 356 = .ok (.if_icmp .ne 7, 3) := by decide +kernel
theorem dL_rivers_359 : decode cL_rivers 359 = .ok (.iconst 1, 1) := by decide +kernel
theorem dL_rivers_360 : decode cL_rivers 360 = .ok (.goto 4, 3) := by decide +kernel
theorem dL_rivers_363 : decode cL_rivers 363 = .ok (.iconst 0, 1) := by decide +kernel
theorem dL_rivers_364 : decode cL_rivers 364 = .ok (.istore 9, 2) := by decide +kernel
theorem dL_rivers_366 : decode cL_rivers 366 = .ok (.iload 9, 2) := by decide +kernel
theorem dL_rivers_368 : decode cL_rivers 368 = .ok (.ifCond .ne 5, 3) := by decide +kernel
theorem dL_rivers_371 : decode cL_rivers 371 = .ok (.iconst 0, 1) := by decide +kernel
theorem dL_rivers_372 : decode cL_rivers 372 = .ok (.ireturn, 1) := by decide +kernel
theorem dL_rivers_373 : decode cL_rivers 373 = .ok (.iinc 4 1, 3) := by decide +kernel
theorem dL_rivers_376 : decode cL_rivers 376 = .ok (.goto (-358), 3) := by decide +kernel
theorem dL_rivers_379 : decode cL_rivers 379 = .ok (.iconst 0, 1) := by decide +kernel
theorem dL_rivers_380 : decode cL_rivers 380 = .ok (.istore 4, 2) := by decide +kernel
theorem dL_rivers_382 : decode cL_rivers 382 = .ok (.ldc_w 284, 3) := by decide +kernel
theorem dL_rivers_385 : decode cL_rivers 385 = .ok (.istore 5, 2) := by decide +kernel
theorem dL_rivers_387 : decode cL_rivers 387 = .ok (.iconst 1, 1) := by decide +kernel
theorem dL_rivers_388 : decode cL_rivers 388 = .ok (.istore 6, 2) := by decide +kernel
theorem dL_rivers_390 : decode cL_rivers 390 = .ok (.iload 6, 2) := by decide +kernel
theorem dL_rivers_392 : decode cL_rivers 392 = .ok (.bipush 10, 2) := by decide +kernel
theorem dL_rivers_394 : decode cL_rivers 394 = .ok (.if_icmp .ge 42, 3) := by decide +kernel
theorem dL_rivers_397 : decode cL_rivers 397 = .ok (.aload_n 0, 1) := by decide +kernel
theorem dL_rivers_398 : decode cL_rivers 398 = .ok (.iload 6, 2) := by decide +kernel
theorem dL_rivers_400 : decode cL_rivers 400 = .ok (.invokestatic 285, 3) := by decide +kernel
theorem dL_rivers_403 : decode cL_rivers 403 = .ok (.iload 5, 2) := by decide +kernel
theorem dL_rivers_405 : decode cL_rivers 405 = .ok (.if_icmp .ge 8, 3) := by decide +kernel
theorem dL_rivers_408 : decode cL_rivers 408 = .ok (.iload 6, 2) := by decide +kernel
theorem dL_rivers_410 : decode cL_rivers 410 = .ok (.goto 5, 3) := by decide +kernel
theorem dL_rivers_413 : decode cL_rivers 413 = .ok (.iload 4, 2) := by decide +kernel
theorem dL_rivers_415 : decode cL_rivers 415 = .ok (.istore 4, 2) := by decide +kernel
theorem dL_rivers_417 : decode cL_rivers 417 = .ok (.iload 5, 2) := by decide +kernel
theorem dL_rivers_419 : decode cL_rivers 419 = .ok (.aload_n 0, 1) := by decide +kernel
theorem dL_rivers_420 : decode cL_rivers 420 = .ok (.iload 6, 2) := by decide +kernel
theorem dL_rivers_422 : decode cL_rivers 422 = .ok (.invokestatic 285, 3) := by decide +kernel
theorem dL_rivers_425 : decode cL_rivers 425 = .ok (.invokestatic 159, 3) := by decide +kernel
theorem dL_rivers_428 : decode cL_rivers 428 = .ok (.istore 5, 2) := by decide +kernel
theorem dL_rivers_430 : decode cL_rivers 430 = .ok (.iinc 6 1, 3) := by decide +kernel
theorem dL_rivers_433 : decode cL_rivers 433 = .ok (.goto (-43), 3) := by decide +kernel
theorem dL_rivers_436 : decode cL_rivers 436 = .ok (.iconst (-1), 1) := by decide +kernel
theorem dL_rivers_437 : decode cL_rivers 437 = .ok (.istore 6, 2) := by decide +kernel
theorem dL_rivers_439 : decode cL_rivers 439 = .ok (.iconst 0, 1) := by decide +kernel
theorem dL_rivers_440 : decode cL_rivers 440 = .ok (.istore 7, 2) := by decide +kernel
theorem dL_rivers_442 : decode cL_rivers 442 = .ok (.iload 7, 2) := by decide +kernel
theorem dL_rivers_444 : decode cL_rivers 444 = .ok (.iload_n 1, 1) := by decide +kernel
theorem dL_rivers_445 : decode cL_rivers 445 = .ok (.if_icmp .ge 100, 3) := by decide +kernel
theorem dL_rivers_448 : decode cL_rivers 448 = .ok (.aload_n 0, 1) := by decide +kernel
theorem dL_rivers_449 : decode cL_rivers 449 = .ok (.iload 7, 2) := by decide +kernel
theorem dL_rivers_451 : decode cL_rivers 451 = .ok (.invokestatic 288, 3) := by decide +kernel
theorem dL_rivers_454 : decode cL_rivers 454 = .ok (.istore 8, 2) := by decide +kernel
theorem dL_rivers_456 : decode cL_rivers 456 = .ok (.iload 8, 2) := by decide +kernel
theorem dL_rivers_458 : decode cL_rivers 458 = .ok (.ifCond .ge 7, 3) := by decide +kernel
theorem dL_rivers_461 : decode cL_rivers 461 = .ok (.iconst (-1), 1) := by decide +kernel
theorem dL_rivers_462 : decode cL_rivers 462 = .ok (.goto 25, 3) := by decide +kernel
theorem dL_rivers_465 : decode cL_rivers 465 = .ok (.iload 6, 2) := by decide +kernel
theorem dL_rivers_467 : decode cL_rivers 467 = .ok (.ifCond .ge 7, 3) := by decide +kernel
theorem dL_rivers_470 : decode cL_rivers 470 = .ok (.iconst 1, 1) := by decide +kernel
theorem dL_rivers_471 : decode cL_rivers 471 = .ok (.goto 16, 3) := by decide +kernel
theorem dL_rivers_474 : decode cL_rivers 474 = .ok (.aload_n 0, 1) := by decide +kernel
theorem dL_rivers_475 : decode cL_rivers 475 = .ok (.iload 6, 2) := by decide +kernel
theorem dL_rivers_477 : decode cL_rivers 477 = .ok (.invokestatic 280, 3) := by decide +kernel
theorem dL_rivers_480 : decode cL_rivers 480 = .ok (.aload_n 0, 1) := by decide +kernel
theorem dL_rivers_481 : decode cL_rivers 481 = .ok (.iload 8, 2) := by decide +kernel
theorem dL_rivers_483 : decode cL_rivers 483 = .ok (.invokestatic 280, 3) := by decide +kernel
theorem dL_rivers_486 : decode cL_rivers 486 = .ok (.isub, 1) := by decide +kernel
theorem dL_rivers_487 : decode cL_rivers 487 = .ok (.istore 9, 2) := by decide +kernel
theorem dL_rivers_489 : decode cL_rivers 489 = .ok (.iload 9, 2) := by decide +kernel
theorem dL_rivers_491 : decode cL_rivers 491 = .ok (.ifCond .eq 8, 3) := by decide +kernel
theorem dL_rivers_494 : decode cL_rivers 494 = .ok (.iload 9, 2) := by decide +kernel
theorem dL_rivers_496 : decode cL_rivers 496 = .ok (.goto 18, 3) := by decide +kernel
theorem dL_rivers_499 : decode cL_rivers 499 = .ok (.aload_n 0, 1) := by decide +kernel
theorem dL_rivers_500 : decode cL_rivers 500 = .ok (.iload 6, 2) := by decide +kernel
theorem dL_rivers_502 : decode cL_rivers 502 = .ok (.iconst 1, 1) := by decide +kernel
theorem dL_rivers_503 : decode cL_rivers 503 = .ok (.invokestatic 276, 3) := by decide +kernel
theorem dL_rivers_506 : decode cL_rivers 506 = .ok (.aload_n 0, 1) := by decide +kernel
theorem dL_rivers_507 : decode cL_rivers 507 = .ok (.iload 8, 2) := by decide +kernel
theorem dL_rivers_509 : decode cL_rivers 509 = .ok (.iconst 1, 1) := by decide +kernel
theorem dL_rivers_510 : decode cL_rivers 510 = .ok (.invokestatic 276, 3) := by decide +kernel
theorem dL_rivers_513 : decode cL_rivers 513 = .ok (.isub, 1) := by decide +kernel
theorem dL_rivers_514 : decode cL_rivers 514 = .ok (.istore 9, 2) := by decide +kernel
theorem dL_rivers_516 : decode cL_rivers 516 = .ok (.iload 9, 2) := by decide +kernel
theorem dL_rivers_518 : decode cL_rivers 518 = .ok (.ifCond .lt 15, 3) := by decide +kernel
theorem dL_rivers_521 : decode cL_rivers 521 = .ok (.iload 9, 2) := by decide +kernel
theorem dL_rivers_523 : decode cL_rivers 523 = .ok (.ifCond .ne 12, 3) := by decide +kernel
theorem dL_rivers_526 : decode cL_rivers 526 = .ok (.iload 8, 2) := by decide +kernel
theorem dL_rivers_528 : decode cL_rivers 528 = .ok (.iload 6, 2) := by decide +kernel
theorem dL_rivers_530 : decode cL_rivers 530 = .ok (.if_icmp .ge 5, 3) := by decide +kernel
theorem dL_rivers_533 : decode cL_rivers 533 = .ok (.iconst 0, 1) := by decide +kernel
theorem dL_rivers_534 : decode cL_rivers 534 = .ok (.ireturn, 1) := by decide +kernel
theorem dL_rivers_535 : decode cL_rivers 535 = .ok (.iload 8, 2) := by decide +kernel
theorem dL_rivers_537 : decode cL_rivers 537 = .ok (.istore 6, 2) := by decide +kernel
theorem dL_rivers_539 : decode cL_rivers 539 = .ok (.iinc 7 1, 3) := by decide +kernel
theorem dL_rivers_542 : decode cL_rivers 542 = .ok (.goto (-100), 3) := by decide +kernel
theorem dL_rivers_545 : decode cL_rivers 545 = .ok (.aload_n 0, 1) := by decide +kernel
theorem dL_rivers_546 : decode cL_rivers 546 = .ok (.iconst 0, 1) := by decide +kernel
theorem dL_rivers_547 : decode cL_rivers 547 = .ok (.iconst 5, 1) := by decide +kernel
theorem dL_rivers_548 : decode cL_rivers 548 = .ok (.invokestatic 237, 3) := by decide +kernel
theorem dL_rivers_551 : decode cL_rivers 551 = .ok (.aload_n 3, 1) := by decide +kernel
theorem dL_rivers_552 : decode cL_rivers 552 = .ok (.iconst 0, 1) := by decide +kernel
theorem dL_rivers_553 : decode cL_rivers 553 = .ok (.iaload, 1) := by decide +kernel
theorem dL_rivers_554 : decode cL_rivers 554 = .ok (.if_icmp .ne 43, 3) := by decide +kernel
theorem dL_rivers_557 : decode cL_rivers 557 = .ok (.aload_n 0, 1) := by decide +kernel
theorem dL_rivers_558 : decode cL_rivers 558 = .ok (.iconst 1, 1) := by decide +kernel
theorem dL_rivers_559 : decode cL_rivers 559 = .ok (.iconst 5, 1) := by decide +kernel
theorem dL_rivers_560 : decode cL_rivers 560 = .ok (.invokestatic 237, 3) := by decide +kernel
theorem dL_rivers_563 : decode cL_rivers 563 = .ok (.aload_n 3, 1) := by decide +kernel
theorem dL_rivers_564 : decode cL_rivers 564 = .ok (.iconst 1, 1) := by decide +kernel
theorem dL_rivers_565 : decode cL_rivers 565 = .ok (.iaload, 1) := by decide +kernel
theorem dL_rivers_566 : decode cL_rivers 566 = .ok (.if_icmp .ne 31, 3) := by decide +kernel
theorem dL_rivers_569 : decode cL_rivers 569 = .ok (.aload_n 0, 1) := by decide +kernel
theorem dL_rivers_570 : decode cL_rivers 570 = .ok (.iconst 2, 1) := by decide +kernel
theorem dL_rivers_571 : decode cL_rivers 571 = .ok (.iconst 5, 1) := by decide +kernel
theorem dL_rivers_572 : decode cL_rivers 572 = .ok (.invokestatic 237, 3) := by decide +kernel
theorem dL_rivers_575 : decode cL_rivers 575 = .ok (.aload_n 3, 1) := by decide +kernel
theorem dL_rivers_576 : decode cL_rivers 576 = .ok (.iconst 2, 1) := by decide +kernel
theorem dL_rivers_577 : decode cL_rivers 577 = .ok (.iaload, 1) := by decide +kernel
theorem dL_rivers_578 : decode cL_rivers 578 = .ok (.if_icmp .ne 19, 3) := by decide +kernel
theorem dL_rivers_581 : decode cL_rivers 581 = .ok (.aload_n 0, 1) := by decide +kernel
theorem dL_rivers_582 : decode cL_rivers 582 = .ok (.iconst 3, 1) := by decide +kernel
theorem dL_rivers_583 : decode cL_rivers 583 = .ok (.iconst 5, 1) := by decide +kernel
theorem dL_rivers_584 : decode cL_rivers 584 = .ok (.invokestatic 237, 3) := by decide +kernel
theorem dL_rivers_587 : decode cL_rivers 587 = .ok (.aload_n 3, 1) := by decide +kernel
theorem dL_rivers_588 : decode cL_rivers 588 = .ok (.iconst 3, 1) := by decide +kernel
theorem dL_rivers_589 : decode cL_rivers 589 = .ok (.iaload, 1) := by decide +kernel
theorem dL_rivers_590 : decode cL_rivers 590 = .ok (.if_icmp .ne 7, 3) := by decide +kernel
theorem dL_rivers_593 : decode cL_rivers 593 = .ok (.iconst 1, 1) := by decide +kernel
theorem dL_rivers_594 : decode cL_rivers 594 = .ok (.goto 4, 3) := by decide +kernel
theorem dL_rivers_597 : decode cL_rivers 597 = .ok (.iconst 0, 1) := by decide +kernel
theorem dL_rivers_598 : decode cL_rivers 598 = .ok (.istore 7, 2) := by decide +kernel
theorem dL_rivers_600 : decode cL_rivers 600 = .ok (.iload 7, 2) := by decide +kernel
theorem dL_rivers_602 : decode cL_rivers 602 = .ok (.ifCond .eq 114, 3) := by decide +kernel
theorem dL_rivers_605 : decode cL_rivers 605 = .ok (.aload_n 0, 1) := by decide +kernel
theorem dL_rivers_606 : decode cL_rivers 606 = .ok (.invokevirtual 290, 3) := by decide +kernel
theorem dL_rivers_609 : decode cL_rivers 609 = .ok (.aload_n 0, 1) := by decide +kernel
theorem dL_rivers_610 : decode cL_rivers 610 = .ok (.aload_n 0, 1) := by decide +kernel
theorem dL_rivers_611 : decode cL_rivers 611 = .ok (.iconst 4, 1) := by decide +kernel
theorem dL_rivers_612 : decode cL_rivers 612 = .ok (.invokevirtual 255, 3) := by decide +kernel
theorem dL_rivers_615 : decode cL_rivers 615 = .ok (.invokestatic 285, 3) := by decide +kernel
theorem dL_rivers_618 : decode cL_rivers 618 = .ok (.if_icmp .ne 98, 3) := by decide +kernel
theorem dL_rivers_621 : decode cL_rivers 621 = .ok (.aload_n 0, 1) := by decide +kernel
theorem dL_rivers_622 : decode cL_rivers 622 = .ok (.invokestatic 292, 3) := by decide +kernel
theorem dL_rivers_625 : decode cL_rivers 625 = .ok (.iload_n 1, 1) := by decide +kernel
theorem dL_rivers_626 : decode cL_rivers 626 = .ok (.ifCond .ne 8, 3) := by decide +kernel
theorem dL_rivers_629 : decode cL_rivers 629 = .ok (.bipush (-15), 2) := by decide +kernel
theorem dL_rivers_631 : decode cL_rivers 631 = .ok (.goto 5, 3) := by decide +kernel
theorem dL_rivers_634 : decode cL_rivers 634 = .ok (.iload 4, 2) := by decide +kernel
theorem dL_rivers_636 : decode cL_rivers 636 = .ok (.if_icmp .ne 80, 3) := by decide +kernel
theorem dL_rivers_639 : decode cL_rivers 639 = .ok (.iload_n 1, 1) := by decide +kernel
theorem dL_rivers_640 : decode cL_rivers 640 = .ok (.ifCond .eq 19, 3) := by decide +kernel
theorem dL_rivers_643 : decode cL_rivers 643 = .ok (.aload_n 0, 1) := by decide +kernel
theorem dL_rivers_644 : decode cL_rivers 644 = .ok (.invokevirtual 294, 3) := by decide +kernel
theorem dL_rivers_647 : decode cL_rivers 647 = .ok (.aload_n 0, 1) := by decide +kernel
theorem dL_rivers_648 : decode cL_rivers 648 = .ok (.invokevirtual 290, 3) := by decide +kernel
theorem dL_rivers_651 : decode cL_rivers 651 = .ok (.i2d, 1) := by decide +kernel
theorem dL_rivers_652 : decode cL_rivers 652 = .ok (.iload_n 1, 1) := by decide +kernel
theorem dL_rivers_653 : decode cL_rivers 653 = .ok (.i2d, 1) := by decide +kernel
theorem dL_rivers_654 : decode cL_rivers 654 = .ok (.ddiv, 1) := by decide +kernel
theorem dL_rivers_655 : decode cL_rivers 655 = .ok (.dcmp .l, 1) := by decide +kernel
theorem dL_rivers_656 : decode cL_rivers 656 = .ok (.ifCond .ne 60, 3) := by decide +kernel
theorem dL_rivers_659 : decode cL_rivers 659 = .ok (.aload_n 0, 1) := by decide +kernel
theorem dL_rivers_660 : decode cL_rivers 660 = .ok (.iload_n 1, 1) := by decide +kernel
theorem dL_rivers_661 : decode cL_rivers 661 = .ok (.invokestatic 288, 3) := by decide +kernel
theorem dL_rivers_664 : decode cL_rivers 664 = .ok (.bipush (-15), 2) := by decide +kernel
theorem dL_rivers_666 : decode cL_rivers 666 = .ok (.if_icmp .ne 50, 3) := by decide +kernel
theorem dL_rivers_669 : decode cL_rivers 669 = .ok (.aload_n 0, 1) := by decide +kernel
theorem dL_rivers_670 : decode cL_rivers 670 = .ok (.iload_n 1, 1) := by decide +kernel
theorem dL_rivers_671 : decode cL_rivers 671 = .ok (.invokestatic 280, 3) := by decide +kernel
theorem dL_rivers_674 : decode cL_rivers 674 = .ok (.bipush (-11), 2) := by decide +kernel
theorem dL_rivers_676 : decode cL_rivers 676 = .ok (.if_icmp .ne 40, 3) := by decide +kernel
theorem dL_rivers_679 : decode cL_rivers 679 = .ok (.aload_n 0, 1) := by decide +kernel
theorem dL_rivers_680 : decode cL_rivers 680 = .ok (.iload_n 1, 1) := by decide +kernel
theorem dL_rivers_681 : decode cL_rivers 681 = .ok (.invokestatic 282, 3) := by decide +kernel
theorem dL_rivers_684 : decode cL_rivers 684 = .ok (.bipush (-11), 2) := by decide +kernel
theorem dL_rivers_686 : decode cL_rivers 686 = .ok (.if_icmp .ne 30, 3) := by decide +kernel
theorem dL_rivers_689 : decode cL_rivers 689 = .ok (.aload_n 0, 1) := by decide +kernel
theorem dL_rivers_690 : decode cL_rivers 690 = .ok (.iload_n 1, 1) := by decide +kernel
theorem dL_rivers_691 : decode cL_rivers 691 = .ok (.bipush 6, 2) := by decide +kernel
theorem dL_rivers_693 : decode cL_rivers 693 = .ok (.invokestatic 276, 3) := by decide +kernel
theorem dL_rivers_696 : decode cL_rivers 696 = .ok (.bipush (-11), 2) := by decide +kernel
theorem dL_rivers_698 : decode cL_rivers 698 = .ok (.if_icmp .ne 18, 3) := by decide +kernel
theorem dL_rivers_701 : decode cL_rivers 701 = .ok (.aload_n 0, 1) := by decide +kernel
theorem dL_rivers_702 : decode cL_rivers 702 = .ok (.iload_n 1, 1) := by decide +kernel
theorem dL_rivers_703 : decode cL_rivers 703 = .ok (.iconst 0, 1) := by decide +kernel
theorem dL_rivers_704 : decode cL_rivers 704 = .ok (.invokestatic 278, 3) := by decide +kernel
theorem dL_rivers_707 : decode cL_rivers 707 = .ok (.bipush (-11), 2) := by decide +kernel
theorem dL_rivers_709 : decode cL_rivers 709 = .ok (.if_icmp .ne 7, 3) := by decide +kernel
theorem dL_rivers_712 : decode cL_rivers 712 = .ok (.iconst 1, 1) := by decide +kernel
theorem dL_rivers_713 : decode cL_rivers 713 = .ok (.goto 4, 3) := by decide +kernel
theorem dL_rivers_716 : decode cL_rivers 716 = .ok (.iconst 0, 1) := by decide +kernel
theorem dL_rivers_717 : decode cL_rivers 717 = .ok (.ireturn, 1) := by decide +kernel
theorem dL_dragons_0 : decode cL_dragons 0 = .ok (.aload_n 0, 1) := by decide +kernel
theorem dL_dragons_1 : decode cL_dragons 1 = .ok (.iconst 2, 1) := by decide +kernel
theorem dL_dragons_2 : decode cL_dragons 2 = .ok (.invokevirtual 255, 3) := by decide +kernel
theorem dL_dragons_5 : decode cL_dragons 5 = .ok (.istore_n 1, 1) := by decide +kernel
theorem dL_dragons_6 : decode cL_dragons 6 = .ok (.iconst 4, 1) := by decide +kernel
theorem dL_dragons_7 : decode cL_dragons 7 = .ok (.newarray .int, 2) := by decide +kernel
theorem dL_dragons_9 : decode cL_dragons 9 = .ok (.astore_n 2, 1) := by decide +kernel
theorem dL_dragons_10 : decode cL_dragons 10 = .ok (.iconst 4, 1) := by decide +kernel
theorem dL_dragons_11 : decode cL_dragons 11 = .ok (.newarray .int, 2) := by decide +kernel
theorem dL_dragons_13 : decode cL_dragons 13 = .ok (.dup, 1) := by decide +kernel
theorem dL_dragons_14 : decode cL_dragons 14 = .ok (.iconst 0, 1) := by decide +kernel
theorem dL_dragons_15 : decode cL_dragons 15 = .ok (.bipush 100, 2) := by decide +kernel
theorem dL_dragons_17 : decode cL_dragons 17 = .ok (.iastore, 1) := by decide +kernel
theorem dL_dragons_18 : decode cL_dragons 18 = .ok (.dup, 1) := by decide +kernel
theorem dL_dragons_19 : decode cL_dragons 19 = .ok (.iconst 1, 1) := by decide +kernel
theorem dL_dragons_20 : decode cL_dragons 20 = .ok (.bipush 100, 2) := by decide +kernel
theorem dL_dragons_22 : decode cL_dragons 22 = .ok (.iastore, 1) := by decide +kernel
theorem dL_dragons_23 : decode cL_dragons 23 = .ok (.dup, 1) := by decide +kernel
theorem dL_dragons_24 : decode cL_dragons 24 = .ok (.iconst 2, 1) := by decide +kernel
theorem dL_dragons_25 : decode cL_dragons 25 = .ok (.bipush 100, 2) := by decide +kernel
theorem dL_dragons_27 : decode cL_dragons 27 = .ok (.iastore, 1) := by decide +kernel
theorem dL_dragons_28 : decode cL_dragons 28 = .ok (.dup, 1) := by decide +kernel
theorem dL_dragons_29 : decode cL_dragons 29 = .ok (.iconst 3, 1) := by decide +kernel
theorem dL_dragons_30 : decode cL_dragons 30 = .ok (.bipush 100, 2) := by decide +kernel
theorem dL_dragons_32 : decode cL_dragons 32 = .ok (.iastore, 1) := by decide +kernel
theorem dL_dragons_33 : decode cL_dragons 33 = .ok (.astore_n 3, 1) := by decide +kernel
theorem dL_dragons_34 : decode cL_dragons 34 = .ok (.iconst 0, 1) := by decide +kernel
theorem dL_dragons_35 : decode cL_dragons 35 = .ok (.istore 4, 2) := by decide +kernel
theorem dL_dragons_37 : decode cL_dragons 37 = .ok (.iload 4, 2) := by decide +kernel
theorem dL_dragons_39 : decode cL_dragons 39 = .ok (.iload_n 1, 1) := by decide +kernel
theorem dL_dragons_40 : decode cL_dragons 40 = .ok (.if_icmp .ge 120, 3) := by decide +kernel
theorem dL_dragons_43 : decode cL_dragons 43 = .ok (.aload_n 0, 1) := by decide +kernel
theorem dL_dragons_44 : decode cL_dragons 44 = .ok (.iload 4, 2) := by decide +kernel
theorem dL_dragons_46 : decode cL_dragons 46 = .ok (.iconst 0, 1) := by decide +kernel
theorem dL_dragons_47 : decode cL_dragons 47 = .ok (.invokestatic 298, 3) := by decide +kernel
theorem dL_dragons_50 : decode cL_dragons 50 = .ok (.istore 5, 2) := by decide +kernel
theorem dL_dragons_52 : decode cL_dragons 52 = .ok (.aload_n 0, 1) := by decide +kernel
theorem dL_dragons_53 : decode cL_dragons 53 = .ok (.iload 4, 2) := by decide +kernel
theorem dL_dragons_55 : decode cL_dragons 55 = .ok (.iconst 2, 1) := by decide +kernel
theorem dL_dragons_56 : decode cL_dragons 56 = .ok (.invokestatic 298, 3) := by decide +kernel
theorem dL_dragons_59 : decode cL_dragons 59 = .ok (.istore 6, 2) := by decide +kernel
theorem dL_dragons_61 : decode cL_dragons 61 = .ok (.iconst 0, 1) := by decide +kernel
theorem dL_dragons_62 : decode cL_dragons 62 = .ok (.istore 7, 2) := by decide +kernel
theorem dL_dragons_64 : decode cL_dragons 64 = .ok (.iload 7, 2) := by decide +kernel
theorem dL_dragons_66 : decode cL_dragons 66 = .ok (.iload 4, 2) := by decide +kernel
theorem dL_dragons_68 : decode cL_dragons 68 = .ok (.if_icmp .ge 23, 3) := by decide +kernel
theorem dL_dragons_71 : decode cL_dragons 71 = .ok (.aload_n 0, 1) := by decide +kernel
theorem dL_dragons_72 : decode cL_dragons 72 = .ok (.iload 7, 2) := by decide +kernel
theorem dL_dragons_74 : decode cL_dragons 74 = .ok (.iconst 0, 1) := by decide +kernel
theorem dL_dragons_75 : decode cL_dragons 75 = .ok (.invokestatic 298, 3) := by decide +kernel
theorem dL_dragons_78 : decode cL_dragons 78 = .ok (.iload 5, 2) := by decide +kernel
theorem dL_dragons_80 : decode cL_dragons 80 = .ok (.if_icmp .ne 5, 3) := by decide +kernel
theorem dL_dragons_83 : decode cL_dragons 83 = .ok (.iconst 0, 1) := by decide +kernel
theorem dL_dragons_84 : decode cL_dragons 84 = .ok (.ireturn, 1) := by decide +kernel
theorem dL_dragons_85 : decode cL_dragons 85 = .ok (.iinc 7 1, 3) := by decide +kernel
theorem dL_dragons_88 : decode cL_dragons 88 = .ok (.goto (-24), 3) := by decide +kernel
theorem dL_dragons_91 : decode cL_dragons 91 = .ok (.aload_n 0, 1) := by decide +kernel
theorem dL_dragons_92 : decode cL_dragons 92 = .ok (.iload 5, 2) := by decide +kernel
theorem dL_dragons_94 : decode cL_dragons 94 = .ok (.invokestatic 195, 3) := by decide +kernel
theorem dL_dragons_97 : decode cL_dragons 97 = .ok (.iload 6, 2) := by decide +kernel
theorem dL_dragons_99 : decode cL_dragons 99 = .ok (.if_icmp .ne 31, 3) := by decide +kernel
theorem dL_dragons_102 : decode cL_dragons 102 = .ok (.iload 6, 2) := by decide +kernel
theorem dL_dragons_104 : decode cL_dragons 104 = .ok (.ifCond .lt 26, 3) := by decide +kernel
theorem dL_dragons_107 : decode cL_dragons 107 = .ok (.aload_n 0, 1) := by decide +kernel
theorem dL_dragons_108 : decode cL_dragons 108 = .ok (.iload 4, 2) := by decide +kernel
theorem dL_dragons_110 : decode cL_dragons 110 = .ok (.iconst 1, 1) := by decide +kernel
theorem dL_dragons_111 : decode cL_dragons 111 = .ok (.invokestatic 298, 3) := by decide +kernel
theorem dL_dragons_114 : decode cL_dragons 114 = .ok (.iconst 1, 1) := by decide +kernel
theorem dL_dragons_115 : decode cL_dragons 115 = .ok (.if_icmp .lt 15, 3) := by decide +kernel
theorem dL_dragons_118 : decode cL_dragons 118 = .ok (.aload_n 0, 1) := by decide +kernel
theorem dL_dragons_119 : decode cL_dragons 119 = .ok (.iload 4, 2) := by decide +kernel
theorem dL_dragons_121 : decode cL_dragons 121 = .ok (.iconst 3, 1) := by decide +kernel
theorem dL_dragons_122 : decode cL_dragons 122 = .ok (.invokestatic 298, 3) := by decide +kernel
theorem dL_dragons_125 : decode cL_dragons 125 = .ok (.bipush (-12), 2) := by decide +kernel
theorem dL_dragons_127 : decode cL_dragons 127 = .ok (.if_icmp .eq 5, 3) := by decide +kernel
theorem dL_dragons_130 : decode cL_dragons 130 = .ok (.iconst 0, 1) := by decide +kernel
theorem dL_dragons_131 : decode cL_dragons 131 = .ok (.ireturn, 1) := by decide +kernel
theorem dL_dragons_132 : decode cL_dragons 132 = .ok (.aload_n 2, 1) := by decide +kernel
theorem dL_dragons_133 : decode cL_dragons 133 = .ok (.iload 6, 2) := by decide +kernel
theorem dL_dragons_135 : decode cL_dragons 135 = .ok (.dup2, 1) := by decide +kernel
theorem dL_dragons_136 : decode cL_dragons 136 = .ok (.iaload, 1) := by decide +kernel
theorem dL_dragons_137 : decode cL_dragons 137 = .ok (.iconst 1, 1) := by decide +kernel
theorem dL_dragons_138 : decode cL_dragons 138 = .ok (.iadd, 1) := by decide +kernel
theorem dL_dragons_139 : decode cL_dragons 139 = .ok (.iastore, 1) := by decide +kernel
theorem dL_dragons_140 : decode cL_dragons 140 = .ok (.aload_n 3, 1) := by decide +kernel
theorem dL_dragons_141 : decode cL_dragons 141 = .ok (.iload 6, 2) := by decide +kernel
theorem dL_dragons_143 : decode cL_dragons 143 = .ok (.dup2, 1) := by decide +kernel
theorem dL_dragons_144 : decode cL_dragons 144 = .ok (.iaload, 1) := by decide +kernel
theorem dL_dragons_145 : decode cL_dragons 145 = .ok (.aload_n 0, 1) := by decide +kernel
theorem dL_dragons_146 : decode cL_dragons 146 = .ok (.iload 4, 2) := by decide +kernel
theorem dL_dragons_148 : decode cL_dragons 148 = .ok (.iconst 1, 1) := by decide +kernel
theorem dL_dragons_149 : decode cL_dragons 149 = .ok (.invokestatic 298, 3) := by decide +kernel
theorem dL_dragons_152 : decode cL_dragons 152 = .ok (.isub, 1) := by decide +kernel
theorem dL_dragons_153 : decode cL_dragons 153 = .ok (.iastore, 1) := by decide +kernel
theorem dL_dragons_154 : decode cL_dragons 154 = .ok (.iinc 4 1, 3) := by decide +kernel
theorem dL_dragons_157 : decode cL_dragons 157 = .ok (.goto (-120), 3) := by decide +kernel
theorem dL_dragons_160 : decode cL_dragons 160 = .ok (.iconst 0, 1) := by decide +kernel
theorem dL_dragons_161 : decode cL_dragons 161 = .ok (.istore 4, 2) := by decide +kernel
theorem dL_dragons_163 : decode cL_dragons 163 = .ok (.iconst 0, 1) := by decide +kernel
theorem dL_dragons_164 : decode cL_dragons 164 = .ok (.istore 5, 2) := by decide +kernel
theorem dL_dragons_166 : decode cL_dragons 166 = .ok (.iload 5, 2) := by decide +kernel
theorem dL_dragons_168 : decode cL_dragons 168 = .ok (.iconst 4, 1) := by decide +kernel
theorem dL_dragons_169 : decode cL_dragons 169 = .ok (.if_icmp .ge 68, 3) := by decide +kernel
theorem dL_dragons_172 : decode cL_dragons 172 = .ok (.iload 4, 2) := by decide +kernel
theorem dL_dragons_174 : decode cL_dragons 174 = .ok (.aload_n 3, 1) := by decide +kernel
theorem dL_dragons_175 : decode cL_dragons 175 = .ok (.iload 5, 2) := by decide +kernel
theorem dL_dragons_177 : decode cL_dragons 177 = .ok (.iaload, 1) := by decide +kernel
theorem dL_dragons_178 : decode cL_dragons 178 = .ok (.iadd, 1) := by decide +kernel
theorem dL_dragons_179 : decode cL_dragons 179 = .ok (.istore 4, 2) := by decide +kernel
theorem dL_dragons_181 : decode cL_dragons 181 = .ok (.aload_n 0, 1) := by decide +kernel
theorem dL_dragons_182 : decode cL_dragons 182 = .ok (.iload 5, 2) := by decide +kernel
theorem dL_dragons_184 : decode cL_dragons 184 = .ok (.iconst 1, 1) := by decide +kernel
theorem dL_dragons_185 : decode cL_dragons 185 = .ok (.invokestatic 237, 3) := by decide +kernel
theorem dL_dragons_188 : decode cL_dragons 188 = .ok (.aload_n 3, 1) := by decide +kernel
theorem dL_dragons_189 : decode cL_dragons 189 = .ok (.iload 5, 2) := by decide +kernel
theorem dL_dragons_191 : decode cL_dragons 191 = .ok (.iaload, 1) := by decide +kernel
theorem dL_dragons_192 : decode cL_dragons 192 = .ok (.if_icmp .ne 37, 3) := by decide +kernel
theorem dL_dragons_195 : decode cL_dragons 195 = .ok (.aload_n 0, 1) := by decide +kernel
theorem dL_dragons_196 : decode cL_dragons 196 = .ok (.iload 5, 2) := by decide +kernel
theorem dL_dragons_198 : decode cL_dragons 198 = .ok (.iconst 2, 1) := by decide +kernel
theorem dL_dragons_199 : decode cL_dragons 199 = .ok (.invokestatic 237, 3) := by decide +kernel
theorem dL_dragons_202 : decode cL_dragons 202 = .ok (.aload_n 2, 1) := by decide +kernel
theorem dL_dragons_203 : decode cL_dragons 203 = .ok (.iload 5, 2) := by decide +kernel
theorem dL_dragons_205 : decode cL_dragons 205 = .ok (.iaload, 1) := by decide +kernel
theorem dL_dragons_206 : decode cL_dragons 206 = .ok (.if_icmp .ne 23, 3) := by decide +kernel
theorem dL_dragons_209 : decode cL_dragons 209 = .ok (.aload_n 0, 1) := by decide +kernel
theorem dL_dragons_210 : decode cL_dragons 210 = .ok (.iload 5, 2) := by decide +kernel
theorem dL_dragons_212 : decode cL_dragons 212 = .ok (.iconst 3, 1) := by decide +kernel
theorem dL_dragons_213 : decode cL_dragons 213 = .ok (.invokestatic 237, 3) := by decide +kernel
theorem dL_dragons_216 : decode cL_dragons 216 = .ok (.ifCond .ne 13, 3) := by decide +kernel
theorem dL_dragons_219 : decode cL_dragons 219 = .ok (.aload_n 0, 1) := by decide +kernel
theorem dL_dragons_220 : decode cL_dragons 220 = .ok (.iload 5, 2) := by decide +kernel
theorem dL_dragons_222 : decode cL_dragons 222 = .ok (.iconst 4, 1) := by decide +kernel
theorem dL_dragons_223 : decode cL_dragons 223 = .ok (.invokestatic 237, 3) := by decide +kernel
theorem dL_dragons_226 : decode cL_dragons 226 = .ok (.ifCond .eq 5, 3) := by decide +kernel
theorem dL_dragons_229 : decode cL_dragons 229 = .ok (.iconst 0, 1) := by decide +kernel
theorem dL_dragons_230 : decode cL_dragons 230 = .ok (.ireturn, 1) := by decide +kernel
theorem dL_dragons_231 : decode cL_dragons 231 = .ok (.iinc 5 1, 3) := by decide +kernel
theorem dL_dragons_234 : decode cL_dragons 234 = .ok (.goto (-68), 3) := by decide +kernel
theorem dL_dragons_237 : decode cL_dragons 237 = .ok (.aload_n 0, 1) := by decide +kernel
theorem dL_dragons_238 : decode cL_dragons 238 = .ok (.iconst 3, 1) := by decide +kernel
theorem dL_dragons_239 : decode cL_dragons 239 = .ok (.invokevirtual 255, 3) := by decide +kernel
theorem dL_dragons_242 : decode cL_dragons 242 = .ok (.iload 4, 2) := by decide +kernel
theorem dL_dragons_244 : decode cL_dragons 244 = .ok (.if_icmp .ne 45, 3) := by decide +kernel
theorem dL_dragons_247 : decode cL_dragons 247 = .ok (.aload_n 0, 1) := by decide +kernel
theorem dL_dragons_248 : decode cL_dragons 248 = .ok (.bipush 6, 2) := by decide +kernel
theorem dL_dragons_250 : decode cL_dragons 250 = .ok (.invokevirtual 255, 3) := by decide +kernel
theorem dL_dragons_253 : decode cL_dragons 253 = .ok (.ifCond .ne 36, 3) := by decide +kernel
theorem dL_dragons_256 : decode cL_dragons 256 = .ok (.aload_n 0, 1) := by decide +kernel
theorem dL_dragons_257 : decode cL_dragons 257 = .ok (.bipush 7, 2) := by decide +kernel
theorem dL_dragons_259 : decode cL_dragons 259 = .ok (.invokevirtual 255, 3) := by decide +kernel
theorem dL_dragons_262 : decode cL_dragons 262 = .ok (.ifCond .ne 27, 3) := by decide +kernel
theorem dL_dragons_265 : decode cL_dragons 265 = .ok (.aload_n 0, 1) := by decide +kernel
theorem dL_dragons_266 : decode cL_dragons 266 = .ok (.bipush 8, 2) := by decide +kernel
theorem dL_dragons_268 : decode cL_dragons 268 = .ok (.invokevirtual 255, 3) := by decide +kernel
theorem dL_dragons_271 : decode cL_dragons 271 = .ok (.ifCond .ne 18, 3) := by decide +kernel
theorem dL_dragons_274 : decode cL_dragons 274 = .ok (.aload_n 0, 1) := by decide +kernel
theorem dL_dragons_275 : decode cL_dragons 275 = .ok (.iload_n 1, 1) := by decide +kernel
theorem dL_dragons_276 : decode cL_dragons 276 = .ok (.iconst 3, 1) := by decide +kernel
theorem dL_dragons_277 : decode cL_dragons 277 = .ok (.invokestatic 298, 3) := by decide +kernel
theorem dL_dragons_280 : decode cL_dragons 280 = .ok (.bipush (-11), 2) := by decide +kernel
theorem dL_dragons_282 : decode cL_dragons 282 = .ok (.if_icmp .ne 7, 3) := by decide +kernel
theorem dL_dragons_285 : decode cL_dragons 285 = .ok (.iconst 1, 1) := by decide +kernel
theorem dL_dragons_286 : decode cL_dragons 286 = .ok (.goto 4, 3) := by decide +kernel
theorem dL_dragons_289 : decode cL_dragons 289 = .ok (.iconst 0, 1) := by decide +kernel
theorem dL_dragons_290 : decode cL_dragons 290 = .ok (.ireturn, 1) := by decide +kernel
theorem dL_spells_0 : decode cL_spells 0 = .ok (.iload_n 1, 1) := by decide +kernel
theorem dL_spells_1 : decode cL_spells 1 = .ok (.aload_n 2, 1) := by decide +kernel
theorem dL_spells_2 : decode cL_spells 2 = .ok (.invokevirtual 130, 3) := by decide +kernel
theorem dL_spells_5 : decode cL_spells 5 = .ok (.if_icmp .ne 7, 3) := by decide +kernel
theorem dL_spells_8 : decode cL_spells 8 = .ok (.iconst 1, 1) := by decide +kernel
theorem dL_spells_9 : decode cL_spells 9 = .ok (.goto 4, 3) := by decide +kernel
theorem dL_spells_12 : decode cL_spells 12 = .ok (.iconst 0, 1) := by decide +kernel
theorem dL_spells_13 : decode cL_spells 13 = .ok (.istore_n 3, 1) := by decide +kernel
theorem dL_spells_14 : decode cL_spells 14 = .ok (.iconst 0, 1) := by decide +kernel
theorem dL_spells_15 : decode cL_spells 15 = .ok (.istore 4, 2) := by decide +kernel
theorem dL_spells_17 : decode cL_spells 17 = .ok (.iload 4, 2) := by decide +kernel
theorem dL_spells_19 : decode cL_spells 19 = .ok (.aload_n 2, 1) := by decide +kernel
theorem dL_spells_20 : decode cL_spells 20 = .ok (.invokevirtual 130, 3) := by decide +kernel
theorem dL_spells_23 : decode cL_spells 23 = .ok (.if_icmp .ge 34, 3) := by decide +kernel
theorem dL_spells_26 : decode cL_spells 26 = .ok (.iload_n 3, 1) := by decide +kernel
theorem dL_spells_27 : decode cL_spells 27 = .ok (.ifCond .eq 30, 3) := by decide +kernel
theorem dL_spells_30 : decode cL_spells 30 = .ok (.aload_n 0, 1) := by decide +kernel
theorem dL_spells_31 : decode cL_spells 31 = .ok (.iload 4, 2) := by decide +kernel
theorem dL_spells_33 : decode cL_spells 33 = .ok (.invokestatic 300, 3) := by decide +kernel
theorem dL_spells_36 : decode cL_spells 36 = .ok (.aload_n 2, 1) := by decide +kernel
theorem dL_spells_37 : decode cL_spells 37 = .ok (.iload 4, 2) := by decide +kernel
theorem dL_spells_39 : decode cL_spells 39 = .ok (.invokevirtual 135, 3) := by decide +kernel
theorem dL_spells_42 : decode cL_spells 42 = .ok (.if_icmp .ne 7, 3) := by decide +kernel
theorem dL_spells_45 : decode cL_spells 45 = .ok (.iconst 1, 1) := by decide +kernel
theorem dL_spells_46 : decode cL_spells 46 = .ok (.goto 4, 3) := by decide +kernel
theorem dL_spells_49 : decode cL_spells 49 = .ok (.iconst 0, 1) := by decide +kernel
theorem dL_spells_50 : decode cL_spells 50 = .ok (.istore_n 3, 1) := by decide +kernel
theorem dL_spells_51 : decode cL_spells 51 = .ok (.iinc 4 1, 3) := by decide +kernel
theorem dL_spells_54 : decode cL_spells 54 = .ok (.goto (-37), 3) := by decide +kernel
theorem dL_spells_57 : decode cL_spells 57 = .ok (.iload_n 3, 1) := by decide +kernel
theorem dL_spells_58 : decode cL_spells 58 = .ok (.ifCond .eq 17, 3) := by decide +kernel
theorem dL_spells_61 : decode cL_spells 61 = .ok (.aload_n 0, 1) := by decide +kernel
theorem dL_spells_62 : decode cL_spells 62 = .ok (.iload_n 1, 1) := by decide +kernel
theorem dL_spells_63 : decode cL_spells 63 = .ok (.invokestatic 300, 3) := by decide +kernel
theorem dL_spells_66 : decode cL_spells 66 = .ok (.bipush (-15), 2) := by decide +kernel
theorem dL_spells_68 : decode cL_spells 68 = .ok (.if_icmp .ne 7, 3) := by decide +kernel
theorem dL_spells_71 : decode cL_spells 71 = .ok (.iconst 1, 1) := by decide +kernel
theorem dL_spells_72 : decode cL_spells 72 = .ok (.goto 4, 3) := by decide +kernel
theorem dL_spells_75 : decode cL_spells 75 = .ok (.iconst 0, 1) := by decide +kernel
theorem dL_spells_76 : decode cL_spells 76 = .ok (.ireturn, 1) := by decide +kernel
theorem dL_lines_0 : decode cL_lines 0 = .ok (.iconst 0, 1) := by decide +kernel
theorem dL_lines_1 : decode cL_lines 1 = .ok (.istore_n 1, 1) := by decide +kernel
theorem dL_lines_2 : decode cL_lines 2 = .ok (.iload_n 1, 1) := by decide +kernel
theorem dL_lines_3 : decode cL_lines 3 = .ok (.bipush 8, 2) := by decide +kernel
theorem dL_lines_5 : decode cL_lines 5 = .ok (.if_icmp .ge 150, 3) := by decide +kernel
theorem dL_lines_8 : decode cL_lines 8 = .ok (.ldc 172, 2) := by decide +kernel
theorem dL_lines_10 : decode cL_lines 10 = .ok (.astore_n 2, 1) := by decide +kernel
theorem dL_lines_11 : decode cL_lines 11 = .ok (.iconst 0, 1) := by decide +kernel
theorem dL_lines_12 : decode cL_lines 12 = .ok (.istore_n 3, 1) := by decide +kernel
theorem dL_lines_13 : decode cL_lines 13 = .ok (.iload_n 3, 1) := by decide +kernel
theorem dL_lines_14 : decode cL_lines 14 = .ok (.bipush 8, 2) := by decide +kernel
theorem dL_lines_16 : decode cL_lines 16 = .ok (.if_icmp .ge 118, 3) := by decide +kernel
theorem dL_lines_19 : decode cL_lines 19 = .ok (.iconst 0, 1) := by decide +kernel
theorem dL_lines_20 : decode cL_lines 20 = .ok (.istore 4, 2) := by decide +kernel
theorem dL_lines_22 : decode cL_lines 22 = .ok (.iconst 0, 1) := by decide +kernel
theorem dL_lines_23 : decode cL_lines 23 = .ok (.istore 5, 2) := by decide +kernel
theorem dL_lines_25 : decode cL_lines 25 = .ok (.iload 5, 2) := by decide +kernel
theorem dL_lines_27 : decode cL_lines 27 = .ok (.aload_n 0, 1) := by decide +kernel
theorem dL_lines_28 : decode cL_lines 28 = .ok (.iconst 2, 1) := by decide +kernel
theorem dL_lines_29 : decode cL_lines 29 = .ok (.invokevirtual 255, 3) := by decide +kernel
theorem dL_lines_32 : decode cL_lines 32 = .ok (.if_icmp .ge 37, 3) := by decide +kernel
theorem dL_lines_35 : decode cL_lines 35 = .ok (.iload 4, 2) := by decide +kernel
theorem dL_lines_37 : decode cL_lines 37 = .ok (.ifCond .ne 19, 3) := by decide +kernel
theorem dL_lines_40 : decode cL_lines 40 = .ok (.aload_n 0, 1) := by decide +kernel
theorem dL_lines_41 : decode cL_lines 41 = .ok (.iload 5, 2) := by decide +kernel
theorem dL_lines_43 : decode cL_lines 43 = .ok (.iconst 0, 1) := by decide +kernel
theorem dL_lines_44 : decode cL_lines 44 = .ok (.invokestatic 298, 3) := by decide +kernel
theorem dL_lines_47 : decode cL_lines 47 = .ok (.bipush 8, 2) := by decide +kernel
theorem dL_lines_49 : decode cL_lines 49 = .ok (.iload_n 1, 1) := by decide +kernel
theorem dL_lines_50 : decode cL_lines 50 = .ok (.imul, 1) := by decide +kernel
theorem dL_lines_51 : decode cL_lines 51 = .ok (.iload_n 3, 1) := by decide +kernel
theorem dL_lines_52 : decode cL_lines 52 = .ok (.iadd, 1) := by decide +kernel
theorem dL_lines_53 : decode cL_lines 53 = .ok (.if_icmp .ne 7, 3) := by decide +kernel
theorem dL_lines_56 : decode cL_lines 56 = .ok (.iconst 1, 1) := by decide +kernel
theorem dL_lines_57 : decode cL_lines 57 = .ok (.goto 4, 3) := by decide +kernel
theorem dL_lines_60 : decode cL_lines 60 = .ok (.iconst 0, 1) := by decide +kernel
theorem dL_lines_61 : decode cL_lines 61 = .ok (.istore 4, 2) := by decide +kernel
theorem dL_lines_63 : decode cL_lines 63 = .ok (.iinc 5 1, 3) := by decide +kernel
theorem dL_lines_66 : decode cL_lines 66 = .ok (.goto (-41), 3) := by decide +kernel
theorem dL_lines_69 : decode cL_lines 69 = .ok (.aload_n 0, 1) := by decide +kernel
theorem dL_lines_70 : decode cL_lines 70 = .ok (.bipush 8, 2) := by decide +kernel
theorem dL_lines_72 : decode cL_lines 72 = .ok (.iload_n 1, 1) := by decide +kernel
theorem dL_lines_73 : decode cL_lines 73 = .ok (.imul, 1) := by decide +kernel
theorem dL_lines_74 : decode cL_lines 74 = .ok (.iload_n 3, 1) := by decide +kernel
theorem dL_lines_75 : decode cL_lines 75 = .ok (.iadd, 1) := by decide +kernel
theorem dL_lines_76 : decode cL_lines 76 = .ok (.invokestatic 195, 3) := by decide +kernel
theorem dL_lines_79 : decode cL_lines 79 = .ok (.istore 5, 2) := by decide +kernel
theorem dL_lines_81 : decode cL_lines 81 = .ok (.new 174, 3) := by decide +kernel
theorem dL_lines_84 : decode cL_lines 84 = .ok (.dup, 1) := by decide +kernel
theorem dL_lines_85 : decode cL_lines 85 = .ok (.invokespecial 176, 3) := by decide +kernel
theorem dL_lines_88 : decode cL_lines 88 = .ok (.aload_n 2, 1) := by decide +kernel
theorem dL_lines_89 : decode cL_lines 89 = .ok (.invokevirtual 177, 3) := by decide +kernel
theorem dL_lines_92 : decode cL_lines 92 = .ok (.iload 5, 2) := by decide +kernel
theorem dL_lines_94 : decode cL_lines 94 = .ok (.ifCond .ge 8, 3) := by decide +kernel
theorem dL_lines_97 : decode cL_lines 97 = .ok (.bipush 46, 2) := by decide +kernel
theorem dL_lines_99 : decode cL_lines 99 = .ok (.goto 22, 3) := by decide +kernel
theorem dL_lines_102 : decode cL_lines 102 = .ok (.iload 4, 2) := by decide +kernel
theorem dL_lines_104 : decode cL_lines 104 = .ok (.ifCond .eq 9, 3) := by decide +kernel
theorem dL_lines_107 : decode cL_lines 107 = .ok (.ldc_w 302, 3) := by decide +kernel
theorem dL_lines_110 : decode cL_lines 110 = .ok (.goto 6, 3) := by decide +kernel
theorem dL_lines_113 : decode cL_lines 113 = .ok (.ldc_w 304, 3) := by decide +kernel
theorem dL_lines_116 : decode cL_lines 116 = .ok (.iload 5, 2) := by decide +kernel
theorem dL_lines_118 : decode cL_lines 118 = .ok (.invokevirtual 135, 3) := by decide +kernel
theorem dL_lines_121 : decode cL_lines 121 = .ok (.invokevirtual 182, 3) := by decide +kernel
theorem dL_lines_124 : decode cL_lines 124 = .ok (.invokevirtual 185, 3) := by decide +kernel
theorem dL_lines_127 : decode cL_lines 127 = .ok (.astore_n 2, 1) := by decide +kernel
theorem dL_lines_128 : decode cL_lines 128 = .ok (.iinc 3 1, 3) := by decide +kernel
theorem dL_lines_131 : decode cL_lines 131 = .ok (.goto (-118), 3) := by decide +kernel
theorem dL_lines_134 : decode cL_lines 134 = .ok (.aload_n 0, 1) := by decide +kernel
theorem dL_lines_135 : decode cL_lines 135 = .ok (.aload_n 0, 1) := by decide +kernel
theorem dL_lines_136 : decode cL_lines 136 = .ok (.iload_n 1, 1) := by decide +kernel
theorem dL_lines_137 : decode cL_lines 137 = .ok (.invokestatic 306, 3) := by decide +kernel
theorem dL_lines_140 : decode cL_lines 140 = .ok (.aload_n 2, 1) := by decide +kernel
theorem dL_lines_141 : decode cL_lines 141 = .ok (.invokestatic 308, 3) := by decide +kernel
theorem dL_lines_144 : decode cL_lines 144 = .ok (.ifCond .ne 5, 3) := by decide +kernel
theorem dL_lines_147 : decode cL_lines 147 = .ok (.iconst 0, 1) := by decide +kernel
theorem dL_lines_148 : decode cL_lines 148 = .ok (.ireturn, 1) := by decide +kernel
theorem dL_lines_149 : decode cL_lines 149 = .ok (.iinc 1 1, 3) := by decide +kernel
theorem dL_lines_152 : decode cL_lines 152 = .ok (.goto (-150), 3) := by decide +kernel
theorem dL_lines_155 : decode cL_lines 155 = .ok (.iconst 0, 1) := by decide +kernel
theorem dL_lines_156 : decode cL_lines 156 = .ok (.istore_n 1, 1) := by decide +kernel
theorem dL_lines_157 : decode cL_lines 157 = .ok (.iload_n 1, 1) := by decide +kernel
theorem dL_lines_158 : decode cL_lines 158 = .ok (.aload_n 0, 1) := by decide +kernel
theorem dL_lines_159 : decode cL_lines 159 = .ok (.iconst 1, 1) := by decide +kernel
theorem dL_lines_160 : decode cL_lines 160 = .ok (.invokevirtual 255, 3) := by decide +kernel
theorem dL_lines_163 : decode cL_lines 163 = .ok (.if_icmp .ge 200, 3) := by decide +kernel
theorem dL_lines_166 : decode cL_lines 166 = .ok (.new 174, 3) := by decide +kernel
theorem dL_lines_169 : decode cL_lines 169 = .ok (.dup, 1) := by decide +kernel
theorem dL_lines_170 : decode cL_lines 170 = .ok (.invokespecial 176, 3) := by decide +kernel
theorem dL_lines_173 : decode cL_lines 173 = .ok (.aload_n 0, 1) := by decide +kernel
theorem dL_lines_174 : decode cL_lines 174 = .ok (.iload_n 1, 1) := by decide +kernel
theorem dL_lines_175 : decode cL_lines 175 = .ok (.iconst 0, 1) := by decide +kernel
theorem dL_lines_176 : decode cL_lines 176 = .ok (.invokestatic 276, 3) := by decide +kernel
theorem dL_lines_179 : decode cL_lines 179 = .ok (.invokevirtual 312, 3) := by decide +kernel
theorem dL_lines_182 : decode cL_lines 182 = .ok (.ldc_w 315, 3) := by decide +kernel
theorem dL_lines_185 : decode cL_lines 185 = .ok (.invokevirtual 177, 3) := by decide +kernel
theorem dL_lines_188 : decode cL_lines 188 = .ok (.invokevirtual 185, 3) := by decide +kernel
theorem dL_lines_191 : decode cL_lines 191 = .ok (.astore_n 2, 1) := by decide +kernel
theorem dL_lines_192 : decode cL_lines 192 = .ok (.iconst 1, 1) := by decide +kernel
theorem dL_lines_193 : decode cL_lines 193 = .ok (.istore_n 3, 1) := by decide +kernel
theorem dL_lines_194 : decode cL_lines 194 = .ok (.iload_n 3, 1) := by decide +kernel
theorem dL_lines_195 : decode cL_lines 195 = .ok (.aload_n 0, 1) := by decide +kernel
theorem dL_lines_196 : decode cL_lines 196 = .ok (.iload_n 1, 1) := by decide +kernel
theorem dL_lines_197 : decode cL_lines 197 = .ok (.iconst 1, 1) := by decide +kernel
theorem dL_lines_198 : decode cL_lines 198 = .ok (.invokestatic 276, 3) := by decide +kernel
theorem dL_lines_201 : decode cL_lines 201 = .ok (.if_icmp .gt 85, 3) := by decide +kernel
theorem dL_lines_204 : decode cL_lines 204 = .ok (.aload_n 0, 1) := by decide +kernel
theorem dL_lines_205 : decode cL_lines 205 = .ok (.iload_n 1, 1) := by decide +kernel
theorem dL_lines_206 : decode cL_lines 206 = .ok (.iload_n 3, 1) := by decide +kernel
theorem dL_lines_207 : decode cL_lines 207 = .ok (.invokestatic 278, 3) := by decide +kernel
theorem dL_lines_210 : decode cL_lines 210 = .ok (.aload_n 0, 1) := by decide +kernel
theorem dL_lines_211 : decode cL_lines 211 = .ok (.iload_n 1, 1) := by decide +kernel
theorem dL_lines_212 : decode cL_lines 212 = .ok (.iload_n 3, 1) := by decide +kernel
theorem dL_lines_213 : decode cL_lines 213 = .ok (.iconst 1, 1) := by decide +kernel
theorem dL_lines_214 : decode cL_lines 214 = .ok (.isub, 1) := by decide +kernel
theorem dL_lines_215 : decode cL_lines 215 = .ok (.invokestatic 278, 3) := by decide +kernel
theorem dL_lines_218 : decode cL_lines 218 = .ok (.isub, 1) := by decide +kernel
theorem dL_lines_219 : decode cL_lines 219 = .ok (.istore 4, 2) := by decide +kernel
theorem dL_lines_221 : decode cL_lines 221 = .ok (.new 174, 3) := by decide +kernel
theorem dL_lines_224 : decode cL_lines 224 = .ok (.dup, 1) := by decide +kernel
theorem dL_lines_225 : decode cL_lines 225 = .ok (.invokespecial 176, 3) := by decide +kernel
theorem dL_lines_228 : decode cL_lines 228 = .ok (.aload_n 2, 1) := by decide +kernel
theorem dL_lines_229 : decode cL_lines 229 = .ok (.invokevirtual 177, 3) := by decide +kernel
theorem dL_lines_232 : decode cL_lines 232 = .ok (.iload 4, 2) := by decide +kernel
theorem dL_lines_234 : decode cL_lines 234 = .ok (.bipush (-8), 2) := by decide +kernel
theorem dL_lines_236 : decode cL_lines 236 = .ok (.if_icmp .ne 9, 3) := by decide +kernel
theorem dL_lines_239 : decode cL_lines 239 = .ok (.ldc_w 317, 3) := by decide +kernel
theorem dL_lines_242 : decode cL_lines 242 = .ok (.goto 31, 3) := by decide +kernel
theorem dL_lines_245 : decode cL_lines 245 = .ok (.iload 4, 2) := by decide +kernel
theorem dL_lines_247 : decode cL_lines 247 = .ok (.iconst 1, 1) := by decide +kernel
theorem dL_lines_248 : decode cL_lines 248 = .ok (.if_icmp .ne 9, 3) := by decide +kernel
theorem dL_lines_251 : decode cL_lines 251 = .ok (.ldc_w 319, 3) := by decide +kernel
theorem dL_lines_254 : decode cL_lines 254 = .ok (.goto 19, 3) := by decide +kernel
theorem dL_lines_257 : decode cL_lines 257 = .ok (.iload 4, 2) := by decide +kernel
theorem dL_lines_259 : decode cL_lines 259 = .ok (.bipush 8, 2) := by decide +kernel
theorem dL_lines_261 : decode cL_lines 261 = .ok (.if_icmp .ne 9, 3) := by decide +kernel
theorem dL_lines_264 : decode cL_lines 264 = .ok (.ldc_w 321, 3) := by decide +kernel
theorem dL_lines_267 : decode cL_lines 267 = .ok (.goto 6, 3) := by decide +kernel
theorem dL_lines_270 : decode cL_lines 270 = .ok (.ldc_w 323, 3) := by decide +kernel
theorem dL_lines_273 : decode cL_lines 273 = .ok (.invokevirtual 177, 3) := by decide +kernel
theorem dL_lines_276 : decode cL_lines 276 = .ok (.invokevirtual 185, 3) := by decide +kernel
theorem dL_lines_279 : decode cL_lines 279 = .ok (.astore_n 2, 1) := by decide +kernel
theorem dL_lines_280 : decode cL_lines 280 = .ok (.iinc 3 1, 3) := by decide +kernel
theorem dL_lines_283 : decode cL_lines 283 = .ok (.goto (-89), 3) := by decide +kernel
theorem dL_lines_286 : decode cL_lines 286 = .ok (.new 174, 3) := by decide +kernel
theorem dL_lines_289 : decode cL_lines 289 = .ok (.dup, 1) := by decide +kernel
theorem dL_lines_290 : decode cL_lines 290 = .ok (.invokespecial 176, 3) := by decide +kernel
theorem dL_lines_293 : decode cL_lines 293 = .ok (.aload_n 2, 1) := by decide +kernel
theorem dL_lines_294 : decode cL_lines 294 = .ok (.invokevirtual 177, 3) := by decide +kernel
theorem dL_lines_297 : decode cL_lines 297 = .ok (.ldc_w 325, 3) := by decide +kernel
theorem dL_lines_300 : decode cL_lines 300 = .ok (.invokevirtual 177, 3) := by decide +kernel
theorem dL_lines_303 : decode cL_lines 303 = .ok (.aload_n 0, 1) := by decide +kernel
theorem dL_lines_304 : decode cL_lines 304 = .ok (.iload_n 1, 1) := by decide +kernel
theorem dL_lines_305 : decode cL_lines 305 = .ok (.iconst 3, 1) := by decide +kernel
theorem dL_lines_306 : decode cL_lines 306 = .ok (.invokestatic 276, 3) := by decide +kernel
theorem dL_lines_309 : decode cL_lines 309 = .ok (.invokevirtual 312, 3) := by decide +kernel
theorem dL_lines_312 : decode cL_lines 312 = .ok (.aload_n 0, 1) := by decide +kernel
theorem dL_lines_313 : decode cL_lines 313 = .ok (.iload_n 1, 1) := by decide +kernel
theorem dL_lines_314 : decode cL_lines 314 = .ok (.iconst 3, 1) := by decide +kernel
theorem dL_lines_315 : decode cL_lines 315 = .ok (.invokestatic 276, 3) := by decide +kernel
theorem dL_lines_318 : decode cL_lines 318 = .ok (.aload_n 0, 1) := by decide +kernel
theorem dL_lines_319 : decode cL_lines 319 = .ok (.iload_n 1, 1) := by decide +kernel
theorem dL_lines_320 : decode cL_lines 320 = .ok (.iconst 4, 1) := by decide +kernel
theorem dL_lines_321 : decode cL_lines 321 = .ok (.invokestatic 276, 3) := by decide +kernel
theorem dL_lines_324 : decode cL_lines 324 = .ok (.if_icmp .ne 8, 3) := by decide +kernel
theorem dL_lines_327 : decode cL_lines 327 = .ok (.ldc 172, 2) := by decide +kernel
theorem dL_lines_329 : decode cL_lines 329 = .ok (.goto 6, 3) := by decide +kernel
theorem dL_lines_332 : decode cL_lines 332 = .ok (.ldc_w 327, 3) := by decide +kernel
theorem dL_lines_335 : decode cL_lines 335 = .ok (.invokevirtual 177, 3) := by decide +kernel
theorem dL_lines_338 : decode cL_lines 338 = .ok (.invokevirtual 185, 3) := by decide +kernel
theorem dL_lines_341 : decode cL_lines 341 = .ok (.astore_n 2, 1) := by decide +kernel
theorem dL_lines_342 : decode cL_lines 342 = .ok (.aload_n 0, 1) := by decide +kernel
theorem dL_lines_343 : decode cL_lines 343 = .ok (.aload_n 0, 1) := by decide +kernel
theorem dL_lines_344 : decode cL_lines 344 = .ok (.iload_n 1, 1) := by decide +kernel
theorem dL_lines_345 : decode cL_lines 345 = .ok (.invokestatic 329, 3) := by decide +kernel
theorem dL_lines_348 : decode cL_lines 348 = .ok (.aload_n 2, 1) := by decide +kernel
theorem dL_lines_349 : decode cL_lines 349 = .ok (.invokestatic 308, 3) := by decide +kernel
theorem dL_lines_352 : decode cL_lines 352 = .ok (.ifCond .ne 5, 3) := by decide +kernel
theorem dL_lines_355 : decode cL_lines 355 = .ok (.iconst 0, 1) := by decide +kernel
theorem dL_lines_356 : decode cL_lines 356 = .ok (.ireturn, 1) := by decide +kernel
theorem dL_lines_357 : decode cL_lines 357 = .ok (.iinc 1 1, 3) := by decide +kernel
theorem dL_lines_360 : decode cL_lines 360 = .ok (.goto (-203), 3) := by decide +kernel
theorem dL_lines_363 : decode cL_lines 363 = .ok (.aload_n 0, 1) := by decide +kernel
theorem dL_lines_364 : decode cL_lines 364 = .ok (.bipush 8, 2) := by decide +kernel
theorem dL_lines_366 : decode cL_lines 366 = .ok (.invokestatic 306, 3) := by decide +kernel
theorem dL_lines_369 : decode cL_lines 369 = .ok (.bipush (-11), 2) := by decide +kernel
theorem dL_lines_371 : decode cL_lines 371 = .ok (.if_icmp .ne 21, 3) := by decide +kernel
theorem dL_lines_374 : decode cL_lines 374 = .ok (.aload_n 0, 1) := by decide +kernel
theorem dL_lines_375 : decode cL_lines 375 = .ok (.aload_n 0, 1) := by decide +kernel
theorem dL_lines_376 : decode cL_lines 376 = .ok (.iconst 1, 1) := by decide +kernel
theorem dL_lines_377 : decode cL_lines 377 = .ok (.invokevirtual 255, 3) := by decide +kernel
theorem dL_lines_380 : decode cL_lines 380 = .ok (.invokestatic 329, 3) := by decide +kernel
theorem dL_lines_383 : decode cL_lines 383 = .ok (.bipush (-11), 2) := by decide +kernel
theorem dL_lines_385 : decode cL_lines 385 = .ok (.if_icmp .ne 7, 3) := by decide +kernel
theorem dL_lines_388 : decode cL_lines 388 = .ok (.iconst 1, 1) := by decide +kernel
theorem dL_lines_389 : decode cL_lines 389 = .ok (.goto 4, 3) := by decide +kernel
theorem dL_lines_392 : decode cL_lines 392 = .ok (.iconst 0, 1) := by decide +kernel
theorem dL_lines_393 : decode cL_lines 393 = .ok (.ireturn, 1) := by decide +kernel
theorem dL_sum_0 : decode cL_sum 0 = .ok (.ldc2_w 331, 3) := by decide +kernel
theorem dL_sum_3 : decode cL_sum 3 = .ok (.lstore_n 1, 1) := by decide +kernel
theorem dL_sum_4 : decode cL_sum 4 = .ok (.iconst 0, 1) := by decide +kernel
theorem dL_sum_5 : decode cL_sum 5 = .ok (.istore_n 3, 1) := by decide +kernel
theorem dL_sum_6 : decode cL_sum 6 = .ok (.iload_n 3, 1) := by decide +kernel
theorem dL_sum_7 : decode cL_sum 7 = .ok (.bipush 9, 2) := by decide +kernel
theorem dL_sum_9 : decode cL_sum 9 = .ok (.if_icmp .ge 22, 3) := by decide +kernel
theorem dL_sum_12 : decode cL_sum 12 = .ok (.ldc2_w 333, 3) := by decide +kernel
theorem dL_sum_15 : decode cL_sum 15 = .ok (.lload_n 1, 1) := by decide +kernel
theorem dL_sum_16 : decode cL_sum 16 = .ok (.lmul, 1) := by decide +kernel
theorem dL_sum_17 : decode cL_sum 17 = .ok (.aload_n 0, 1) := by decide +kernel
theorem dL_sum_18 : decode cL_sum 18 = .ok (.iload_n 3, 1) := by decide +kernel
theorem dL_sum_19 : decode cL_sum 19 = .ok (.invokevirtual 255, 3) := by decide +kernel
theorem dL_sum_22 : decode cL_sum 22 = .ok (.i2l, 1) := by decide +kernel
theorem dL_sum_23 : decode cL_sum 23 = .ok (.ladd, 1) := by decide +kernel
theorem dL_sum_24 : decode cL_sum 24 = .ok (.lstore_n 1, 1) := by decide +kernel
theorem dL_sum_25 : decode cL_sum 25 = .ok (.iinc 3 1, 3) := by decide +kernel
theorem dL_sum_28 : decode cL_sum 28 = .ok (.goto (-22), 3) := by decide +kernel
theorem dL_sum_31 : decode cL_sum 31 = .ok (.iconst 0, 1) := by decide +kernel
theorem dL_sum_32 : decode cL_sum 32 = .ok (.istore_n 3, 1) := by decide +kernel
theorem dL_sum_33 : decode cL_sum 33 = .ok (.iload_n 3, 1) := by decide +kernel
theorem dL_sum_34 : decode cL_sum 34 = .ok (.bipush 64, 2) := by decide +kernel
theorem dL_sum_36 : decode cL_sum 36 = .ok (.if_icmp .ge 22, 3) := by decide +kernel
theorem dL_sum_39 : decode cL_sum 39 = .ok (.ldc2_w 335, 3) := by decide +kernel
theorem dL_sum_42 : decode cL_sum 42 = .ok (.lload_n 1, 1) := by decide +kernel
theorem dL_sum_43 : decode cL_sum 43 = .ok (.lmul, 1) := by decide +kernel
theorem dL_sum_44 : decode cL_sum 44 = .ok (.aload_n 0, 1) := by decide +kernel
theorem dL_sum_45 : decode cL_sum 45 = .ok (.iload_n 3, 1) := by decide +kernel
theorem dL_sum_46 : decode cL_sum 46 = .ok (.invokestatic 195, 3) := by decide +kernel
theorem dL_sum_49 : decode cL_sum 49 = .ok (.i2l, 1) := by decide +kernel
theorem dL_sum_50 : decode cL_sum 50 = .ok (.ladd, 1) := by decide +kernel
theorem dL_sum_51 : decode cL_sum 51 = .ok (.lstore_n 1, 1) := by decide +kernel
theorem dL_sum_52 : decode cL_sum 52 = .ok (.iinc 3 1, 3) := by decide +kernel
theorem dL_sum_55 : decode cL_sum 55 = .ok (.goto (-22), 3) := by decide +kernel
theorem dL_sum_58 : decode cL_sum 58 = .ok (.iconst 0, 1) := by decide +kernel
theorem dL_sum_59 : decode cL_sum 59 = .ok (.istore_n 3, 1) := by decide +kernel
theorem dL_sum_60 : decode cL_sum 60 = .ok (.iload_n 3, 1) := by decide +kernel
theorem dL_sum_61 : decode cL_sum 61 = .ok (.bipush 24, 2) := by decide +kernel
theorem dL_sum_63 : decode cL_sum 63 = .ok (.if_icmp .ge 29, 3) := by decide +kernel
theorem dL_sum_66 : decode cL_sum 66 = .ok (.ldc2_w 337, 3) := by decide +kernel
theorem dL_sum_69 : decode cL_sum 69 = .ok (.lload_n 1, 1) := by decide +kernel
theorem dL_sum_70 : decode cL_sum 70 = .ok (.lmul, 1) := by decide +kernel
theorem dL_sum_71 : decode cL_sum 71 = .ok (.aload_n 0, 1) := by decide +kernel
theorem dL_sum_72 : decode cL_sum 72 = .ok (.iload_n 3, 1) := by decide +kernel
theorem dL_sum_73 : decode cL_sum 73 = .ok (.bipush 6, 2) := by decide +kernel
theorem dL_sum_75 : decode cL_sum 75 = .ok (.idiv, 1) := by decide +kernel
theorem dL_sum_76 : decode cL_sum 76 = .ok (.iload_n 3, 1) := by decide +kernel
theorem dL_sum_77 : decode cL_sum 77 = .ok (.bipush 6, 2) := by decide +kernel
theorem dL_sum_79 : decode cL_sum 79 = .ok (.irem, 1) := by decide +kernel
theorem dL_sum_80 : decode cL_sum 80 = .ok (.invokestatic 237, 3) := by decide +kernel
theorem dL_sum_83 : decode cL_sum 83 = .ok (.i2l, 1) := by decide +kernel
theorem dL_sum_84 : decode cL_sum 84 = .ok (.ladd, 1) := by decide +kernel
theorem dL_sum_85 : decode cL_sum 85 = .ok (.lstore_n 1, 1) := by decide +kernel
theorem dL_sum_86 : decode cL_sum 86 = .ok (.iinc 3 1, 3) := by decide +kernel
theorem dL_sum_89 : decode cL_sum 89 = .ok (.goto (-29), 3) := by decide +kernel
theorem dL_sum_92 : decode cL_sum 92 = .ok (.iconst 0, 1) := by decide +kernel
theorem dL_sum_93 : decode cL_sum 93 = .ok (.istore_n 3, 1) := by decide +kernel
theorem dL_sum_94 : decode cL_sum 94 = .ok (.iload_n 3, 1) := by decide +kernel
theorem dL_sum_95 : decode cL_sum 95 = .ok (.bipush 6, 2) := by decide +kernel
theorem dL_sum_97 : decode cL_sum 97 = .ok (.aload_n 0, 1) := by decide +kernel
theorem dL_sum_98 : decode cL_sum 98 = .ok (.iconst 1, 1) := by decide +kernel
theorem dL_sum_99 : decode cL_sum 99 = .ok (.invokevirtual 255, 3) := by decide +kernel
theorem dL_sum_102 : decode cL_sum 102 = .ok (.imul, 1) := by decide +kernel
theorem dL_sum_103 : decode cL_sum 103 = .ok (.if_icmp .ge 29, 3) := by decide +kernel
theorem dL_sum_106 : decode cL_sum 106 = .ok (.ldc2_w 339, 3) := by decide +kernel
theorem dL_sum_109 : decode cL_sum 109 = .ok (.lload_n 1, 1) := by decide +kernel
theorem dL_sum_110 : decode cL_sum 110 = .ok (.lmul, 1) := by decide +kernel
theorem dL_sum_111 : decode cL_sum 111 = .ok (.aload_n 0, 1) := by decide +kernel
theorem dL_sum_112 : decode cL_sum 112 = .ok (.iload_n 3, 1) := by decide +kernel
theorem dL_sum_113 : decode cL_sum 113 = .ok (.bipush 6, 2) := by decide +kernel
theorem dL_sum_115 : decode cL_sum 115 = .ok (.idiv, 1) := by decide +kernel
theorem dL_sum_116 : decode cL_sum 116 = .ok (.iload_n 3, 1) := by decide +kernel
theorem dL_sum_117 : decode cL_sum 117 = .ok (.bipush 6, 2) := by decide +kernel
theorem dL_sum_119 : decode cL_sum 119 = .ok (.irem, 1) := by decide +kernel
theorem dL_sum_120 : decode cL_sum 120 = .ok (.invokestatic 276, 3) := by decide +kernel
theorem dL_sum_123 : decode cL_sum 123 = .ok (.i2l, 1) := by decide +kernel
theorem dL_sum_124 : decode cL_sum 124 = .ok (.ladd, 1) := by decide +kernel
theorem dL_sum_125 : decode cL_sum 125 = .ok (.lstore_n 1, 1) := by decide +kernel
theorem dL_sum_126 : decode cL_sum 126 = .ok (.iinc 3 1, 3) := by decide +kernel
theorem dL_sum_129 : decode cL_sum 129 = .ok (.goto (-35), 3) := by decide +kernel
theorem dL_sum_132 : decode cL_sum 132 = .ok (.iconst 0, 1) := by decide +kernel
theorem dL_sum_133 : decode cL_sum 133 = .ok (.istore_n 3, 1) := by decide +kernel
theorem dL_sum_134 : decode cL_sum 134 = .ok (.iload_n 3, 1) := by decide +kernel
theorem dL_sum_135 : decode cL_sum 135 = .ok (.iconst 3, 1) := by decide +kernel
theorem dL_sum_136 : decode cL_sum 136 = .ok (.aload_n 0, 1) := by decide +kernel
theorem dL_sum_137 : decode cL_sum 137 = .ok (.iconst 2, 1) := by decide +kernel
theorem dL_sum_138 : decode cL_sum 138 = .ok (.invokevirtual 255, 3) := by decide +kernel
theorem dL_sum_141 : decode cL_sum 141 = .ok (.imul, 1) := by decide +kernel
theorem dL_sum_142 : decode cL_sum 142 = .ok (.if_icmp .ge 27, 3) := by decide +kernel
theorem dL_sum_145 : decode cL_sum 145 = .ok (.ldc2_w 341, 3) := by decide +kernel
theorem dL_sum_148 : decode cL_sum 148 = .ok (.lload_n 1, 1) := by decide +kernel
theorem dL_sum_149 : decode cL_sum 149 = .ok (.lmul, 1) := by decide +kernel
theorem dL_sum_150 : decode cL_sum 150 = .ok (.aload_n 0, 1) := by decide +kernel
theorem dL_sum_151 : decode cL_sum 151 = .ok (.iload_n 3, 1) := by decide +kernel
theorem dL_sum_152 : decode cL_sum 152 = .ok (.iconst 3, 1) := by decide +kernel
theorem dL_sum_153 : decode cL_sum 153 = .ok (.idiv, 1) := by decide +kernel
theorem dL_sum_154 : decode cL_sum 154 = .ok (.iload_n 3, 1) := by decide +kernel
theorem dL_sum_155 : decode cL_sum 155 = .ok (.iconst 3, 1) := by decide +kernel
theorem dL_sum_156 : decode cL_sum 156 = .ok (.irem, 1) := by decide +kernel
theorem dL_sum_157 : decode cL_sum 157 = .ok (.invokestatic 298, 3) := by decide +kernel
theorem dL_sum_160 : decode cL_sum 160 = .ok (.i2l, 1) := by decide +kernel
theorem dL_sum_161 : decode cL_sum 161 = .ok (.ladd, 1) := by decide +kernel
theorem dL_sum_162 : decode cL_sum 162 = .ok (.lstore_n 1, 1) := by decide +kernel
theorem dL_sum_163 : decode cL_sum 163 = .ok (.iinc 3 1, 3) := by decide +kernel
theorem dL_sum_166 : decode cL_sum 166 = .ok (.goto (-32), 3) := by decide +kernel
theorem dL_sum_169 : decode cL_sum 169 = .ok (.lload_n 1, 1) := by decide +kernel
theorem dL_sum_170 : decode cL_sum 170 = .ok (.lreturn, 1) := by decide +kernel
theorem dL_undone_0 : decode cL_undone 0 = .ok (.bipush 7, 2) := by decide +kernel
theorem dL_undone_2 : decode cL_undone 2 = .ok (.newarray .long, 2) := by decide +kernel
theorem dL_undone_4 : decode cL_undone 4 = .ok (.astore_n 2, 1) := by decide +kernel
theorem dL_undone_5 : decode cL_undone 5 = .ok (.iconst 0, 1) := by decide +kernel
theorem dL_undone_6 : decode cL_undone 6 = .ok (.istore_n 3, 1) := by decide +kernel
theorem dL_undone_7 : decode cL_undone 7 = .ok (.iconst 0, 1) := by decide +kernel
theorem dL_undone_8 : decode cL_undone 8 = .ok (.istore 4, 2) := by decide +kernel
theorem dL_undone_10 : decode cL_undone 10 = .ok (.iload 4, 2) := by decide +kernel
theorem dL_undone_12 : decode cL_undone 12 = .ok (.bipush 6, 2) := by decide +kernel
theorem dL_undone_14 : decode cL_undone 14 = .ok (.if_icmp .ge 418, 3) := by decide +kernel
theorem dL_undone_17 : decode cL_undone 17 = .ok (.aload_n 0, 1) := by decide +kernel
theorem dL_undone_18 : decode cL_undone 18 = .ok (.bipush 21, 2) := by decide +kernel
theorem dL_undone_20 : decode cL_undone 20 = .ok (.iload 4, 2) := by decide +kernel
theorem dL_undone_22 : decode cL_undone 22 = .ok (.iadd, 1) := by decide +kernel
theorem dL_undone_23 : decode cL_undone 23 = .ok (.invokestatic 155, 3) := by decide +kernel
theorem dL_undone_26 : decode cL_undone 26 = .ok (.iconst 1, 1) := by decide +kernel
theorem dL_undone_27 : decode cL_undone 27 = .ok (.iushr, 1) := by decide +kernel
theorem dL_undone_28 : decode cL_undone 28 = .ok (.istore 5, 2) := by decide +kernel
theorem dL_undone_30 : decode cL_undone 30 = .ok (.iload 5, 2) := by decide +kernel
theorem dL_undone_32 : decode cL_undone 32 = .ok (.iconst 4, 1) := by decide +kernel
theorem dL_undone_33 : decode cL_undone 33 = .ok (.iushr, 1) := by decide +kernel
theorem dL_undone_34 : decode cL_undone 34 = .ok (.istore 6, 2) := by decide +kernel
theorem dL_undone_36 : decode cL_undone 36 = .ok (.aload_n 2, 1) := by decide +kernel
theorem dL_undone_37 : decode cL_undone 37 = .ok (.iload_n 3, 1) := by decide +kernel
theorem dL_undone_38 : decode cL_undone 38 = .ok (.aload_n 1, 1) := by decide +kernel
theorem dL_undone_39 : decode cL_undone 39 = .ok (.invokestatic 343, 3) := by decide +kernel
theorem dL_undone_42 : decode cL_undone 42 = .ok (.lastore, 1) := by decide +kernel
theorem dL_undone_43 : decode cL_undone 43 = .ok (.iload 5, 2) := by decide +kernel
theorem dL_undone_45 : decode cL_undone 45 = .ok (.bipush 9, 2) := by decide +kernel
theorem dL_undone_47 : decode cL_undone 47 = .ok (.irem, 1) := by decide +kernel
theorem dL_undone_48 : decode cL_undone 48 = .ok (.tableswitch 220 0 7 #[48, 72, 72, 93, 107, 172, 185, 207], 48) := by decide +kernel
theorem dL_undone_96 : decode cL_undone 96 = .ok (.aload_n 1, 1) := by decide +kernel
theorem dL_undone_97 : decode cL_undone 97 = .ok (.iload 6, 2) := by decide +kernel
theorem dL_undone_99 : decode cL_undone 99 = .ok (.bipush 66, 2) := by decide +kernel
theorem dL_undone_101 : decode cL_undone 101 = .ok (.irem, 1) := by decide +kernel
theorem dL_undone_102 : decode cL_undone 102 = .ok (.iload 6, 2) := by decide +kernel
theorem dL_undone_104 : decode cL_undone 104 = .ok (.bipush 7, 2) := by decide +kernel
theorem dL_undone_106 : decode cL_undone 106 = .ok (.iushr, 1) := by decide +kernel
theorem dL_undone_107 : decode cL_undone 107 = .ok (.bipush 6, 2) := by decide +kernel
theorem dL_undone_109 : decode cL_undone 109 = .ok (.irem, 1) := by decide +kernel
theorem dL_undone_110 : decode cL_undone 110 = .ok (.iconst 1, 1) := by decide +kernel
theorem dL_undone_111 : decode cL_undone 111 = .ok (.isub, 1) := by decide +kernel
theorem dL_undone_112 : decode cL_undone 112 = .ok (.invokestatic 164, 3) := by decide +kernel
theorem dL_undone_115 : decode cL_undone 115 = .ok (.istore 7, 2) := by decide +kernel
theorem dL_undone_117 : decode cL_undone 117 = .ok (.goto 252, 3) := by decide +kernel
theorem dL_undone_120 : decode cL_undone 120 = .ok (.aload_n 1, 1) := by decide +kernel
theorem dL_undone_121 : decode cL_undone 121 = .ok (.iload 6, 2) := by decide +kernel
theorem dL_undone_123 : decode cL_undone 123 = .ok (.bipush 64, 2) := by decide +kernel
theorem dL_undone_125 : decode cL_undone 125 = .ok (.irem, 1) := by decide +kernel
theorem dL_undone_126 : decode cL_undone 126 = .ok (.iload 6, 2) := by decide +kernel
theorem dL_undone_128 : decode cL_undone 128 = .ok (.bipush 6, 2) := by decide +kernel
theorem dL_undone_130 : decode cL_undone 130 = .ok (.iushr, 1) := by decide +kernel
theorem dL_undone_131 : decode cL_undone 131 = .ok (.iconst 4, 1) := by decide +kernel
theorem dL_undone_132 : decode cL_undone 132 = .ok (.irem, 1) := by decide +kernel
theorem dL_undone_133 : decode cL_undone 133 = .ok (.invokestatic 347, 3) := by decide +kernel
theorem dL_undone_136 : decode cL_undone 136 = .ok (.istore 7, 2) := by decide +kernel
theorem dL_undone_138 : decode cL_undone 138 = .ok (.goto 231, 3) := by decide +kernel
theorem dL_undone_141 : decode cL_undone 141 = .ok (.aload_n 1, 1) := by decide +kernel
theorem dL_undone_142 : decode cL_undone 142 = .ok (.iload 6, 2) := by decide +kernel
theorem dL_undone_144 : decode cL_undone 144 = .ok (.bipush 11, 2) := by decide +kernel
theorem dL_undone_146 : decode cL_undone 146 = .ok (.irem, 1) := by decide +kernel
theorem dL_undone_147 : decode cL_undone 147 = .ok (.invokestatic 169, 3) := by decide +kernel
theorem dL_undone_150 : decode cL_undone 150 = .ok (.istore 7, 2) := by decide +kernel
theorem dL_undone_152 : decode cL_undone 152 = .ok (.goto 217, 3) := by decide +kernel
theorem dL_undone_155 : decode cL_undone 155 = .ok (.aload_n 1, 1) := by decide +kernel
theorem dL_undone_156 : decode cL_undone 156 = .ok (.iload 6, 2) := by decide +kernel
theorem dL_undone_158 : decode cL_undone 158 = .ok (.bipush 64, 2) := by decide +kernel
theorem dL_undone_160 : decode cL_undone 160 = .ok (.irem, 1) := by decide +kernel
theorem dL_undone_161 : decode cL_undone 161 = .ok (.new 174, 3) := by decide +kernel
theorem dL_undone_164 : decode cL_undone 164 = .ok (.dup, 1) := by decide +kernel
theorem dL_undone_165 : decode cL_undone 165 = .ok (.invokespecial 176, 3) := by decide +kernel
theorem dL_undone_168 : decode cL_undone 168 = .ok (.ldc 180, 2) := by decide +kernel
theorem dL_undone_170 : decode cL_undone 170 = .ok (.iload 6, 2) := by decide +kernel
theorem dL_undone_172 : decode cL_undone 172 = .ok (.iconst 4, 1) := by decide +kernel
theorem dL_undone_173 : decode cL_undone 173 = .ok (.irem, 1) := by decide +kernel
theorem dL_undone_174 : decode cL_undone 174 = .ok (.iconst 4, 1) := by decide +kernel
theorem dL_undone_175 : decode cL_undone 175 = .ok (.invokevirtual 349, 3) := by decide +kernel
theorem dL_undone_178 : decode cL_undone 178 = .ok (.invokevirtual 177, 3) := by decide +kernel
theorem dL_undone_181 : decode cL_undone 181 = .ok (.iload 6, 2) := by decide +kernel
theorem dL_undone_183 : decode cL_undone 183 = .ok (.bipush 9, 2) := by decide +kernel
theorem dL_undone_185 : decode cL_undone 185 = .ok (.irem, 1) := by decide +kernel
theorem dL_undone_186 : decode cL_undone 186 = .ok (.ifCond .ne 9, 3) := by decide +kernel
theorem dL_undone_189 : decode cL_undone 189 = .ok (.ldc_w 353, 3) := by decide +kernel
theorem dL_undone_192 : decode cL_undone 192 = .ok (.goto 6, 3) := by decide +kernel
theorem dL_undone_195 : decode cL_undone 195 = .ok (.ldc_w 321, 3) := by decide +kernel
theorem dL_undone_198 : decode cL_undone 198 = .ok (.invokevirtual 177, 3) := by decide +kernel
theorem dL_undone_201 : decode cL_undone 201 = .ok (.invokevirtual 185, 3) := by decide +kernel
theorem dL_undone_204 : decode cL_undone 204 = .ok (.iload 6, 2) := by decide +kernel
theorem dL_undone_206 : decode cL_undone 206 = .ok (.bipush 6, 2) := by decide +kernel
theorem dL_undone_208 : decode cL_undone 208 = .ok (.iushr, 1) := by decide +kernel
theorem dL_undone_209 : decode cL_undone 209 = .ok (.bipush 101, 2) := by decide +kernel
theorem dL_undone_211 : decode cL_undone 211 = .ok (.irem, 1) := by decide +kernel
theorem dL_undone_212 : decode cL_undone 212 = .ok (.invokestatic 189, 3) := by decide +kernel
theorem dL_undone_215 : decode cL_undone 215 = .ok (.istore 7, 2) := by decide +kernel
theorem dL_undone_217 : decode cL_undone 217 = .ok (.goto 152, 3) := by decide +kernel
theorem dL_undone_220 : decode cL_undone 220 = .ok (.aload_n 1, 1) := by decide +kernel
theorem dL_undone_221 : decode cL_undone 221 = .ok (.iload 6, 2) := by decide +kernel
theorem dL_undone_223 : decode cL_undone 223 = .ok (.iconst 4, 1) := by decide +kernel
theorem dL_undone_224 : decode cL_undone 224 = .ok (.irem, 1) := by decide +kernel
theorem dL_undone_225 : decode cL_undone 225 = .ok (.invokestatic 355, 3) := by decide +kernel
theorem dL_undone_228 : decode cL_undone 228 = .ok (.istore 7, 2) := by decide +kernel
theorem dL_undone_230 : decode cL_undone 230 = .ok (.goto 139, 3) := by decide +kernel
theorem dL_undone_233 : decode cL_undone 233 = .ok (.aload_n 1, 1) := by decide +kernel
theorem dL_undone_234 : decode cL_undone 234 = .ok (.iload 6, 2) := by decide +kernel
theorem dL_undone_236 : decode cL_undone 236 = .ok (.bipush 65, 2) := by decide +kernel
theorem dL_undone_238 : decode cL_undone 238 = .ok (.irem, 1) := by decide +kernel
theorem dL_undone_239 : decode cL_undone 239 = .ok (.iload 6, 2) := by decide +kernel
theorem dL_undone_241 : decode cL_undone 241 = .ok (.bipush 7, 2) := by decide +kernel
theorem dL_undone_243 : decode cL_undone 243 = .ok (.iushr, 1) := by decide +kernel
theorem dL_undone_244 : decode cL_undone 244 = .ok (.bipush 52, 2) := by decide +kernel
theorem dL_undone_246 : decode cL_undone 246 = .ok (.irem, 1) := by decide +kernel
theorem dL_undone_247 : decode cL_undone 247 = .ok (.invokestatic 193, 3) := by decide +kernel
theorem dL_undone_250 : decode cL_undone 250 = .ok (.istore 7, 2) := by decide +kernel
theorem dL_undone_252 : decode cL_undone 252 = .ok (.goto 117, 3) := by decide +kernel
theorem dL_undone_255 : decode cL_undone 255 = .ok (.aload_n 1, 1) := by decide +kernel
theorem dL_undone_256 : decode cL_undone 256 = .ok (.iload 6, 2) := by decide +kernel
theorem dL_undone_258 : decode cL_undone 258 = .ok (.iconst 5, 1) := by decide +kernel
theorem dL_undone_259 : decode cL_undone 259 = .ok (.irem, 1) := by decide +kernel
theorem dL_undone_260 : decode cL_undone 260 = .ok (.invokestatic 357, 3) := by decide +kernel
theorem dL_undone_263 : decode cL_undone 263 = .ok (.istore 7, 2) := by decide +kernel
theorem dL_undone_265 : decode cL_undone 265 = .ok (.goto 104, 3) := by decide +kernel
theorem dL_undone_268 : decode cL_undone 268 = .ok (.aload_n 1, 1) := by decide +kernel
theorem dL_undone_269 : decode cL_undone 269 = .ok (.new 174, 3) := by decide +kernel
theorem dL_undone_272 : decode cL_undone 272 = .ok (.dup, 1) := by decide +kernel
theorem dL_undone_273 : decode cL_undone 273 = .ok (.invokespecial 176, 3) := by decide +kernel
theorem dL_undone_276 : decode cL_undone 276 = .ok (.ldc_w 359, 3) := by decide +kernel
theorem dL_undone_279 : decode cL_undone 279 = .ok (.invokevirtual 177, 3) := by decide +kernel
theorem dL_undone_282 : decode cL_undone 282 = .ok (.iload 6, 2) := by decide +kernel
theorem dL_undone_284 : decode cL_undone 284 = .ok (.bipush 64, 2) := by decide +kernel
theorem dL_undone_286 : decode cL_undone 286 = .ok (.irem, 1) := by decide +kernel
theorem dL_undone_287 : decode cL_undone 287 = .ok (.invokevirtual 312, 3) := by decide +kernel
theorem dL_undone_290 : decode cL_undone 290 = .ok (.ldc_w 361, 3) := by decide +kernel
theorem dL_undone_293 : decode cL_undone 293 = .ok (.invokevirtual 177, 3) := by decide +kernel
theorem dL_undone_296 : decode cL_undone 296 = .ok (.iload 6, 2) := by decide +kernel
theorem dL_undone_298 : decode cL_undone 298 = .ok (.bipush 6, 2) := by decide +kernel
theorem dL_undone_300 : decode cL_undone 300 = .ok (.iushr, 1) := by decide +kernel
theorem dL_undone_301 : decode cL_undone 301 = .ok (.bipush 64, 2) := by decide +kernel
theorem dL_undone_303 : decode cL_undone 303 = .ok (.irem, 1) := by decide +kernel
theorem dL_undone_304 : decode cL_undone 304 = .ok (.invokevirtual 312, 3) := by decide +kernel
theorem dL_undone_307 : decode cL_undone 307 = .ok (.ldc_w 363, 3) := by decide +kernel
theorem dL_undone_310 : decode cL_undone 310 = .ok (.invokevirtual 177, 3) := by decide +kernel
theorem dL_undone_313 : decode cL_undone 313 = .ok (.iload 5, 2) := by decide +kernel
theorem dL_undone_315 : decode cL_undone 315 = .ok (.bipush 18, 2) := by decide +kernel
theorem dL_undone_317 : decode cL_undone 317 = .ok (.irem, 1) := by decide +kernel
theorem dL_undone_318 : decode cL_undone 318 = .ok (.bipush 9, 2) := by decide +kernel
theorem dL_undone_320 : decode cL_undone 320 = .ok (.if_icmp .ge 8, 3) := by decide +kernel
theorem dL_undone_323 : decode cL_undone 323 = .ok (.ldc 172, 2) := by decide +kernel
theorem dL_undone_325 : decode cL_undone 325 = .ok (.goto 27, 3) := by decide +kernel
theorem dL_undone_328 : decode cL_undone 328 = .ok (.new 174, 3) := by decide +kernel
theorem dL_undone_331 : decode cL_undone 331 = .ok (.dup, 1) := by decide +kernel
theorem dL_undone_332 : decode cL_undone 332 = .ok (.invokespecial 176, 3) := by decide +kernel
theorem dL_undone_335 : decode cL_undone 335 = .ok (.ldc_w 365, 3) := by decide +kernel
theorem dL_undone_338 : decode cL_undone 338 = .ok (.invokevirtual 177, 3) := by decide +kernel
theorem dL_undone_341 : decode cL_undone 341 = .ok (.iload 6, 2) := by decide +kernel
theorem dL_undone_343 : decode cL_undone 343 = .ok (.bipush 6, 2) := by decide +kernel
theorem dL_undone_345 : decode cL_undone 345 = .ok (.irem, 1) := by decide +kernel
theorem dL_undone_346 : decode cL_undone 346 = .ok (.invokevirtual 312, 3) := by decide +kernel
theorem dL_undone_349 : decode cL_undone 349 = .ok (.invokevirtual 185, 3) := by decide +kernel
theorem dL_undone_352 : decode cL_undone 352 = .ok (.invokevirtual 177, 3) := by decide +kernel
theorem dL_undone_355 : decode cL_undone 355 = .ok (.ldc_w 367, 3) := by decide +kernel
theorem dL_undone_358 : decode cL_undone 358 = .ok (.invokevirtual 177, 3) := by decide +kernel
theorem dL_undone_361 : decode cL_undone 361 = .ok (.invokevirtual 185, 3) := by decide +kernel
theorem dL_undone_364 : decode cL_undone 364 = .ok (.invokestatic 369, 3) := by decide +kernel
theorem dL_undone_367 : decode cL_undone 367 = .ok (.istore 7, 2) := by decide +kernel
theorem dL_undone_369 : decode cL_undone 369 = .ok (.iload 7, 2) := by decide +kernel
theorem dL_undone_371 : decode cL_undone 371 = .ok (.ifCond .ge 17, 3) := by decide +kernel
theorem dL_undone_374 : decode cL_undone 374 = .ok (.iload 7, 2) := by decide +kernel
theorem dL_undone_376 : decode cL_undone 376 = .ok (.iconst (-1), 1) := by decide +kernel
theorem dL_undone_377 : decode cL_undone 377 = .ok (.if_icmp .ne 15, 3) := by decide +kernel
theorem dL_undone_380 : decode cL_undone 380 = .ok (.iload 5, 2) := by decide +kernel
theorem dL_undone_382 : decode cL_undone 382 = .ok (.bipush 9, 2) := by decide +kernel
theorem dL_undone_384 : decode cL_undone 384 = .ok (.irem, 1) := by decide +kernel
theorem dL_undone_385 : decode cL_undone 385 = .ok (.ifCond .ne 7, 3) := by decide +kernel
theorem dL_undone_388 : decode cL_undone 388 = .ok (.iconst 1, 1) := by decide +kernel
theorem dL_undone_389 : decode cL_undone 389 = .ok (.goto 4, 3) := by decide +kernel
theorem dL_undone_392 : decode cL_undone 392 = .ok (.iconst 0, 1) := by decide +kernel
theorem dL_undone_393 : decode cL_undone 393 = .ok (.istore 8, 2) := by decide +kernel
theorem dL_undone_395 : decode cL_undone 395 = .ok (.iload 8, 2) := by decide +kernel
theorem dL_undone_397 : decode cL_undone 397 = .ok (.ifCond .ne 16, 3) := by decide +kernel
theorem dL_undone_400 : decode cL_undone 400 = .ok (.aload_n 1, 1) := by decide +kernel
theorem dL_undone_401 : decode cL_undone 401 = .ok (.invokestatic 343, 3) := by decide +kernel
theorem dL_undone_404 : decode cL_undone 404 = .ok (.aload_n 2, 1) := by decide +kernel
theorem dL_undone_405 : decode cL_undone 405 = .ok (.iload_n 3, 1) := by decide +kernel
theorem dL_undone_406 : decode cL_undone 406 = .ok (.laload, 1) := by decide +kernel
theorem dL_undone_407 : decode cL_undone 407 = .ok (.lcmp, 1) := by decide +kernel
theorem dL_undone_408 : decode cL_undone 408 = .ok (.ifCond .eq 5, 3) := by decide +kernel
theorem dL_undone_411 : decode cL_undone 411 = .ok (.iconst 0, 1) := by decide +kernel
theorem dL_undone_412 : decode cL_undone 412 = .ok (.ireturn, 1) := by decide +kernel
theorem dL_undone_413 : decode cL_undone 413 = .ok (.iload_n 3, 1) := by decide +kernel
theorem dL_undone_414 : decode cL_undone 414 = .ok (.iload 8, 2) := by decide +kernel
theorem dL_undone_416 : decode cL_undone 416 = .ok (.ifCond .eq 7, 3) := by decide +kernel
theorem dL_undone_419 : decode cL_undone 419 = .ok (.iconst 1, 1) := by decide +kernel
theorem dL_undone_420 : decode cL_undone 420 = .ok (.goto 4, 3) := by decide +kernel
theorem dL_undone_423 : decode cL_undone 423 = .ok (.iconst 0, 1) := by decide +kernel
theorem dL_undone_424 : decode cL_undone 424 = .ok (.iadd, 1) := by decide +kernel
theorem dL_undone_425 : decode cL_undone 425 = .ok (.istore_n 3, 1) := by decide +kernel
theorem dL_undone_426 : decode cL_undone 426 = .ok (.iinc 4 1, 3) := by decide +kernel
theorem dL_undone_429 : decode cL_undone 429 = .ok (.goto (-419), 3) := by decide +kernel
theorem dL_undone_432 : decode cL_undone 432 = .ok (.iload_n 3, 1) := by decide +kernel
theorem dL_undone_433 : decode cL_undone 433 = .ok (.iconst 1, 1) := by decide +kernel
theorem dL_undone_434 : decode cL_undone 434 = .ok (.isub, 1) := by decide +kernel
theorem dL_undone_435 : decode cL_undone 435 = .ok (.istore 4, 2) := by decide +kernel
theorem dL_undone_437 : decode cL_undone 437 = .ok (.iload 4, 2) := by decide +kernel
theorem dL_undone_439 : decode cL_undone 439 = .ok (.ifCond .lt 30, 3) := by decide +kernel
theorem dL_undone_442 : decode cL_undone 442 = .ok (.aload_n 1, 1) := by decide +kernel
theorem dL_undone_443 : decode cL_undone 443 = .ok (.invokestatic 372, 3) := by decide +kernel
theorem dL_undone_446 : decode cL_undone 446 = .ok (.ifCond .lt 15, 3) := by decide +kernel
theorem dL_undone_449 : decode cL_undone 449 = .ok (.aload_n 1, 1) := by decide +kernel
theorem dL_undone_450 : decode cL_undone 450 = .ok (.invokestatic 343, 3) := by decide +kernel
theorem dL_undone_453 : decode cL_undone 453 = .ok (.aload_n 2, 1) := by decide +kernel
theorem dL_undone_454 : decode cL_undone 454 = .ok (.iload 4, 2) := by decide +kernel
theorem dL_undone_456 : decode cL_undone 456 = .ok (.laload, 1) := by decide +kernel
theorem dL_undone_457 : decode cL_undone 457 = .ok (.lcmp, 1) := by decide +kernel
theorem dL_undone_458 : decode cL_undone 458 = .ok (.ifCond .eq 5, 3) := by decide +kernel
theorem dL_undone_461 : decode cL_undone 461 = .ok (.iconst 0, 1) := by decide +kernel
theorem dL_undone_462 : decode cL_undone 462 = .ok (.ireturn, 1) := by decide +kernel
theorem dL_undone_463 : decode cL_undone 463 = .ok (.iinc 4 (-1), 3) := by decide +kernel
theorem dL_undone_466 : decode cL_undone 466 = .ok (.goto (-29), 3) := by decide +kernel
theorem dL_undone_469 : decode cL_undone 469 = .ok (.iconst 1, 1) := by decide +kernel
theorem dL_undone_470 : decode cL_undone 470 = .ok (.ireturn, 1) := by decide +kernel
