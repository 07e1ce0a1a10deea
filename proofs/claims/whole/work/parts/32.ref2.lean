theorem nd_Ref_acts_0 : decode prog_7_method_14_code 0 = .ok (.iload_n 2, 1) := by decide +kernel
theorem nd_Ref_acts_1 : decode prog_7_method_14_code 1 = .ok (.ifCond .ne (34), 3) := by decide +kernel
theorem nd_Ref_acts_4 : decode prog_7_method_14_code 4 = .ok (.aload_n 0, 1) := by decide +kernel
theorem nd_Ref_acts_5 : decode prog_7_method_14_code 5 = .ok (.getfield 16, 3) := by decide +kernel
theorem nd_Ref_acts_8 : decode prog_7_method_14_code 8 = .ok (.iload_n 1, 1) := by decide +kernel
theorem nd_Ref_acts_9 : decode prog_7_method_14_code 9 = .ok (.iaload, 1) := by decide +kernel
theorem nd_Ref_acts_10 : decode prog_7_method_14_code 10 = .ok (.ifCond .eq (6), 3) := by decide +kernel
theorem nd_Ref_acts_13 : decode prog_7_method_14_code 13 = .ok (.bipush (-3), 2) := by decide +kernel
theorem nd_Ref_acts_15 : decode prog_7_method_14_code 15 = .ok (.ireturn, 1) := by decide +kernel
theorem nd_Ref_acts_16 : decode prog_7_method_14_code 16 = .ok (.aload_n 0, 1) := by decide +kernel
theorem nd_Ref_acts_17 : decode prog_7_method_14_code 17 = .ok (.iload_n 1, 1) := by decide +kernel
theorem nd_Ref_acts_18 : decode prog_7_method_14_code 18 = .ok (.invokevirtual 92, 3) := by decide +kernel
theorem nd_Ref_acts_21 : decode prog_7_method_14_code 21 = .ok (.aload_n 0, 1) := by decide +kernel
theorem nd_Ref_acts_22 : decode prog_7_method_14_code 22 = .ok (.iload_n 1, 1) := by decide +kernel
theorem nd_Ref_acts_23 : decode prog_7_method_14_code 23 = .ok (.invokevirtual 96, 3) := by decide +kernel
theorem nd_Ref_acts_26 : decode prog_7_method_14_code 26 = .ok (.ifCond .eq (7), 3) := by decide +kernel
theorem nd_Ref_acts_29 : decode prog_7_method_14_code 29 = .ok (.iconst 1, 1) := by decide +kernel
theorem nd_Ref_acts_30 : decode prog_7_method_14_code 30 = .ok (.goto (4), 3) := by decide +kernel
theorem nd_Ref_acts_33 : decode prog_7_method_14_code 33 = .ok (.iconst 0, 1) := by decide +kernel
theorem nd_Ref_acts_34 : decode prog_7_method_14_code 34 = .ok (.ireturn, 1) := by decide +kernel
theorem nd_Ref_acts_35 : decode prog_7_method_14_code 35 = .ok (.aload_n 0, 1) := by decide +kernel
theorem nd_Ref_acts_36 : decode prog_7_method_14_code 36 = .ok (.getfield 16, 3) := by decide +kernel
theorem nd_Ref_acts_39 : decode prog_7_method_14_code 39 = .ok (.iload_n 1, 1) := by decide +kernel
theorem nd_Ref_acts_40 : decode prog_7_method_14_code 40 = .ok (.iaload, 1) := by decide +kernel
theorem nd_Ref_acts_41 : decode prog_7_method_14_code 41 = .ok (.ifCond .ne (6), 3) := by decide +kernel
theorem nd_Ref_acts_44 : decode prog_7_method_14_code 44 = .ok (.bipush (-3), 2) := by decide +kernel
theorem nd_Ref_acts_46 : decode prog_7_method_14_code 46 = .ok (.ireturn, 1) := by decide +kernel
theorem nd_Ref_acts_47 : decode prog_7_method_14_code 47 = .ok (.iload_n 2, 1) := by decide +kernel
theorem nd_Ref_acts_48 : decode prog_7_method_14_code 48 = .ok (.iconst 5, 1) := by decide +kernel
theorem nd_Ref_acts_49 : decode prog_7_method_14_code 49 = .ok (.if_icmp .ne (42), 3) := by decide +kernel
theorem nd_Ref_acts_52 : decode prog_7_method_14_code 52 = .ok (.aload_n 0, 1) := by decide +kernel
theorem nd_Ref_acts_53 : decode prog_7_method_14_code 53 = .ok (.getfield 16, 3) := by decide +kernel
theorem nd_Ref_acts_56 : decode prog_7_method_14_code 56 = .ok (.iload_n 1, 1) := by decide +kernel
theorem nd_Ref_acts_57 : decode prog_7_method_14_code 57 = .ok (.iaload, 1) := by decide +kernel
theorem nd_Ref_acts_58 : decode prog_7_method_14_code 58 = .ok (.iconst 2, 1) := by decide +kernel
theorem nd_Ref_acts_59 : decode prog_7_method_14_code 59 = .ok (.if_icmp .ne (11), 3) := by decide +kernel
theorem nd_Ref_acts_62 : decode prog_7_method_14_code 62 = .ok (.aload_n 0, 1) := by decide +kernel
theorem nd_Ref_acts_63 : decode prog_7_method_14_code 63 = .ok (.iload_n 1, 1) := by decide +kernel
theorem nd_Ref_acts_64 : decode prog_7_method_14_code 64 = .ok (.invokevirtual 92, 3) := by decide +kernel
theorem nd_Ref_acts_67 : decode prog_7_method_14_code 67 = .ok (.goto (10), 3) := by decide +kernel
theorem nd_Ref_acts_70 : decode prog_7_method_14_code 70 = .ok (.aload_n 0, 1) := by decide +kernel
theorem nd_Ref_acts_71 : decode prog_7_method_14_code 71 = .ok (.getfield 22, 3) := by decide +kernel
theorem nd_Ref_acts_74 : decode prog_7_method_14_code 74 = .ok (.iload_n 1, 1) := by decide +kernel
theorem nd_Ref_acts_75 : decode prog_7_method_14_code 75 = .ok (.iconst 1, 1) := by decide +kernel
theorem nd_Ref_acts_76 : decode prog_7_method_14_code 76 = .ok (.bastore, 1) := by decide +kernel
theorem nd_Ref_acts_77 : decode prog_7_method_14_code 77 = .ok (.aload_n 0, 1) := by decide +kernel
theorem nd_Ref_acts_78 : decode prog_7_method_14_code 78 = .ok (.iload_n 1, 1) := by decide +kernel
theorem nd_Ref_acts_79 : decode prog_7_method_14_code 79 = .ok (.invokevirtual 96, 3) := by decide +kernel
theorem nd_Ref_acts_82 : decode prog_7_method_14_code 82 = .ok (.ifCond .eq (7), 3) := by decide +kernel
theorem nd_Ref_acts_85 : decode prog_7_method_14_code 85 = .ok (.iconst 1, 1) := by decide +kernel
theorem nd_Ref_acts_86 : decode prog_7_method_14_code 86 = .ok (.goto (4), 3) := by decide +kernel
theorem nd_Ref_acts_89 : decode prog_7_method_14_code 89 = .ok (.iconst 0, 1) := by decide +kernel
theorem nd_Ref_acts_90 : decode prog_7_method_14_code 90 = .ok (.ireturn, 1) := by decide +kernel
theorem nd_Ref_acts_91 : decode prog_7_method_14_code 91 = .ok (.aload_n 0, 1) := by decide +kernel
theorem nd_Ref_acts_92 : decode prog_7_method_14_code 92 = .ok (.getfield 16, 3) := by decide +kernel
theorem nd_Ref_acts_95 : decode prog_7_method_14_code 95 = .ok (.iload_n 1, 1) := by decide +kernel
theorem nd_Ref_acts_96 : decode prog_7_method_14_code 96 = .ok (.iaload, 1) := by decide +kernel
theorem nd_Ref_acts_97 : decode prog_7_method_14_code 97 = .ok (.iconst 2, 1) := by decide +kernel
theorem nd_Ref_acts_98 : decode prog_7_method_14_code 98 = .ok (.if_icmp .ne (6), 3) := by decide +kernel
theorem nd_Ref_acts_101 : decode prog_7_method_14_code 101 = .ok (.bipush (-3), 2) := by decide +kernel
theorem nd_Ref_acts_103 : decode prog_7_method_14_code 103 = .ok (.ireturn, 1) := by decide +kernel
theorem nd_Ref_acts_104 : decode prog_7_method_14_code 104 = .ok (.aload_n 0, 1) := by decide +kernel
theorem nd_Ref_acts_105 : decode prog_7_method_14_code 105 = .ok (.iload_n 1, 1) := by decide +kernel
theorem nd_Ref_acts_106 : decode prog_7_method_14_code 106 = .ok (.invokevirtual 96, 3) := by decide +kernel
theorem nd_Ref_acts_109 : decode prog_7_method_14_code 109 = .ok (.ifCond .ne (5), 3) := by decide +kernel
theorem nd_Ref_acts_112 : decode prog_7_method_14_code 112 = .ok (.iconst 0, 1) := by decide +kernel
theorem nd_Ref_acts_113 : decode prog_7_method_14_code 113 = .ok (.ireturn, 1) := by decide +kernel
theorem nd_Ref_acts_114 : decode prog_7_method_14_code 114 = .ok (.aload_n 0, 1) := by decide +kernel
theorem nd_Ref_acts_115 : decode prog_7_method_14_code 115 = .ok (.iload_n 1, 1) := by decide +kernel
theorem nd_Ref_acts_116 : decode prog_7_method_14_code 116 = .ok (.invokevirtual 99, 3) := by decide +kernel
theorem nd_Ref_acts_119 : decode prog_7_method_14_code 119 = .ok (.istore 4, 2) := by decide +kernel
theorem nd_Ref_acts_121 : decode prog_7_method_14_code 121 = .ok (.iload_n 2, 1) := by decide +kernel
theorem nd_Ref_acts_122 : decode prog_7_method_14_code 122 = .ok (.iconst 1, 1) := by decide +kernel
theorem nd_Ref_acts_123 : decode prog_7_method_14_code 123 = .ok (.if_icmp .ne (68), 3) := by decide +kernel
theorem nd_Ref_acts_126 : decode prog_7_method_14_code 126 = .ok (.aload_n 0, 1) := by decide +kernel
theorem nd_Ref_acts_127 : decode prog_7_method_14_code 127 = .ok (.getfield 26, 3) := by decide +kernel
theorem nd_Ref_acts_130 : decode prog_7_method_14_code 130 = .ok (.bipush 9, 2) := by decide +kernel
theorem nd_Ref_acts_132 : decode prog_7_method_14_code 132 = .ok (.iload_n 1, 1) := by decide +kernel
theorem nd_Ref_acts_133 : decode prog_7_method_14_code 133 = .ok (.imul, 1) := by decide +kernel
theorem nd_Ref_acts_134 : decode prog_7_method_14_code 134 = .ok (.iload_n 3, 1) := by decide +kernel
theorem nd_Ref_acts_135 : decode prog_7_method_14_code 135 = .ok (.iadd, 1) := by decide +kernel
theorem nd_Ref_acts_136 : decode prog_7_method_14_code 136 = .ok (.laload, 1) := by decide +kernel
theorem nd_Ref_acts_137 : decode prog_7_method_14_code 137 = .ok (.lconst 0, 1) := by decide +kernel
theorem nd_Ref_acts_138 : decode prog_7_method_14_code 138 = .ok (.lcmp, 1) := by decide +kernel
theorem nd_Ref_acts_139 : decode prog_7_method_14_code 139 = .ok (.ifCond .ne (6), 3) := by decide +kernel
theorem nd_Ref_acts_142 : decode prog_7_method_14_code 142 = .ok (.bipush (-11), 2) := by decide +kernel
theorem nd_Ref_acts_144 : decode prog_7_method_14_code 144 = .ok (.ireturn, 1) := by decide +kernel
theorem nd_Ref_acts_145 : decode prog_7_method_14_code 145 = .ok (.aload_n 0, 1) := by decide +kernel
theorem nd_Ref_acts_146 : decode prog_7_method_14_code 146 = .ok (.getfield 30, 3) := by decide +kernel
theorem nd_Ref_acts_149 : decode prog_7_method_14_code 149 = .ok (.iload_n 3, 1) := by decide +kernel
theorem nd_Ref_acts_150 : decode prog_7_method_14_code 150 = .ok (.iaload, 1) := by decide +kernel
theorem nd_Ref_acts_151 : decode prog_7_method_14_code 151 = .ok (.iload_n 1, 1) := by decide +kernel
theorem nd_Ref_acts_152 : decode prog_7_method_14_code 152 = .ok (.if_icmp .ne (6), 3) := by decide +kernel
theorem nd_Ref_acts_155 : decode prog_7_method_14_code 155 = .ok (.bipush (-12), 2) := by decide +kernel
theorem nd_Ref_acts_157 : decode prog_7_method_14_code 157 = .ok (.ireturn, 1) := by decide +kernel
theorem nd_Ref_acts_158 : decode prog_7_method_14_code 158 = .ok (.aload_n 0, 1) := by decide +kernel
theorem nd_Ref_acts_159 : decode prog_7_method_14_code 159 = .ok (.getfield 30, 3) := by decide +kernel
theorem nd_Ref_acts_162 : decode prog_7_method_14_code 162 = .ok (.iload_n 3, 1) := by decide +kernel
theorem nd_Ref_acts_163 : decode prog_7_method_14_code 163 = .ok (.iload_n 1, 1) := by decide +kernel
theorem nd_Ref_acts_164 : decode prog_7_method_14_code 164 = .ok (.iastore, 1) := by decide +kernel
theorem nd_Ref_acts_165 : decode prog_7_method_14_code 165 = .ok (.aload_n 0, 1) := by decide +kernel
theorem nd_Ref_acts_166 : decode prog_7_method_14_code 166 = .ok (.getfield 33, 3) := by decide +kernel
theorem nd_Ref_acts_169 : decode prog_7_method_14_code 169 = .ok (.iload_n 3, 1) := by decide +kernel
theorem nd_Ref_acts_170 : decode prog_7_method_14_code 170 = .ok (.iload 4, 2) := by decide +kernel
theorem nd_Ref_acts_172 : decode prog_7_method_14_code 172 = .ok (.ifCond .ne (7), 3) := by decide +kernel
theorem nd_Ref_acts_175 : decode prog_7_method_14_code 175 = .ok (.iconst 1, 1) := by decide +kernel
theorem nd_Ref_acts_176 : decode prog_7_method_14_code 176 = .ok (.goto (12), 3) := by decide +kernel
theorem nd_Ref_acts_179 : decode prog_7_method_14_code 179 = .ok (.aload_n 0, 1) := by decide +kernel
theorem nd_Ref_acts_180 : decode prog_7_method_14_code 180 = .ok (.getfield 33, 3) := by decide +kernel
theorem nd_Ref_acts_183 : decode prog_7_method_14_code 183 = .ok (.iload 4, 2) := by decide +kernel
theorem nd_Ref_acts_185 : decode prog_7_method_14_code 185 = .ok (.iaload, 1) := by decide +kernel
theorem nd_Ref_acts_186 : decode prog_7_method_14_code 186 = .ok (.iconst 1, 1) := by decide +kernel
theorem nd_Ref_acts_187 : decode prog_7_method_14_code 187 = .ok (.iadd, 1) := by decide +kernel
theorem nd_Ref_acts_188 : decode prog_7_method_14_code 188 = .ok (.iastore, 1) := by decide +kernel
theorem nd_Ref_acts_189 : decode prog_7_method_14_code 189 = .ok (.iconst 1, 1) := by decide +kernel
theorem nd_Ref_acts_190 : decode prog_7_method_14_code 190 = .ok (.ireturn, 1) := by decide +kernel
theorem nd_Ref_acts_191 : decode prog_7_method_14_code 191 = .ok (.iload_n 2, 1) := by decide +kernel
theorem nd_Ref_acts_192 : decode prog_7_method_14_code 192 = .ok (.iconst 2, 1) := by decide +kernel
theorem nd_Ref_acts_193 : decode prog_7_method_14_code 193 = .ok (.if_icmp .ne (26), 3) := by decide +kernel
theorem nd_Ref_acts_196 : decode prog_7_method_14_code 196 = .ok (.iload 4, 2) := by decide +kernel
theorem nd_Ref_acts_198 : decode prog_7_method_14_code 198 = .ok (.ifCond .eq (9), 3) := by decide +kernel
theorem nd_Ref_acts_201 : decode prog_7_method_14_code 201 = .ok (.iload 4, 2) := by decide +kernel
theorem nd_Ref_acts_203 : decode prog_7_method_14_code 203 = .ok (.iload_n 3, 1) := by decide +kernel
theorem nd_Ref_acts_204 : decode prog_7_method_14_code 204 = .ok (.if_icmp .eq (6), 3) := by decide +kernel
theorem nd_Ref_acts_207 : decode prog_7_method_14_code 207 = .ok (.bipush (-13), 2) := by decide +kernel
theorem nd_Ref_acts_209 : decode prog_7_method_14_code 209 = .ok (.ireturn, 1) := by decide +kernel
theorem nd_Ref_acts_210 : decode prog_7_method_14_code 210 = .ok (.aload_n 0, 1) := by decide +kernel
theorem nd_Ref_acts_211 : decode prog_7_method_14_code 211 = .ok (.getfield 30, 3) := by decide +kernel
theorem nd_Ref_acts_214 : decode prog_7_method_14_code 214 = .ok (.iload_n 3, 1) := by decide +kernel
theorem nd_Ref_acts_215 : decode prog_7_method_14_code 215 = .ok (.iconst 0, 1) := by decide +kernel
theorem nd_Ref_acts_216 : decode prog_7_method_14_code 216 = .ok (.iastore, 1) := by decide +kernel
theorem nd_Ref_acts_217 : decode prog_7_method_14_code 217 = .ok (.iconst 1, 1) := by decide +kernel
theorem nd_Ref_acts_218 : decode prog_7_method_14_code 218 = .ok (.ireturn, 1) := by decide +kernel
theorem nd_Ref_acts_219 : decode prog_7_method_14_code 219 = .ok (.iload_n 2, 1) := by decide +kernel
theorem nd_Ref_acts_220 : decode prog_7_method_14_code 220 = .ok (.iconst 3, 1) := by decide +kernel
theorem nd_Ref_acts_221 : decode prog_7_method_14_code 221 = .ok (.if_icmp .ne (76), 3) := by decide +kernel
theorem nd_Ref_acts_224 : decode prog_7_method_14_code 224 = .ok (.aload_n 0, 1) := by decide +kernel
theorem nd_Ref_acts_225 : decode prog_7_method_14_code 225 = .ok (.getfield 16, 3) := by decide +kernel
theorem nd_Ref_acts_228 : decode prog_7_method_14_code 228 = .ok (.iload_n 1, 1) := by decide +kernel
theorem nd_Ref_acts_229 : decode prog_7_method_14_code 229 = .ok (.iconst 0, 1) := by decide +kernel
theorem nd_Ref_acts_230 : decode prog_7_method_14_code 230 = .ok (.iastore, 1) := by decide +kernel
theorem nd_Ref_acts_231 : decode prog_7_method_14_code 231 = .ok (.aload_n 0, 1) := by decide +kernel
theorem nd_Ref_acts_232 : decode prog_7_method_14_code 232 = .ok (.getfield 22, 3) := by decide +kernel
theorem nd_Ref_acts_235 : decode prog_7_method_14_code 235 = .ok (.iload_n 1, 1) := by decide +kernel
theorem nd_Ref_acts_236 : decode prog_7_method_14_code 236 = .ok (.iconst 0, 1) := by decide +kernel
theorem nd_Ref_acts_237 : decode prog_7_method_14_code 237 = .ok (.bastore, 1) := by decide +kernel
theorem nd_Ref_acts_238 : decode prog_7_method_14_code 238 = .ok (.iconst 1, 1) := by decide +kernel
theorem nd_Ref_acts_239 : decode prog_7_method_14_code 239 = .ok (.istore 5, 2) := by decide +kernel
theorem nd_Ref_acts_241 : decode prog_7_method_14_code 241 = .ok (.iload 5, 2) := by decide +kernel
theorem nd_Ref_acts_243 : decode prog_7_method_14_code 243 = .ok (.aload_n 0, 1) := by decide +kernel
theorem nd_Ref_acts_244 : decode prog_7_method_14_code 244 = .ok (.getfield 67, 3) := by decide +kernel
theorem nd_Ref_acts_247 : decode prog_7_method_14_code 247 = .ok (.if_icmp .gt (38), 3) := by decide +kernel
theorem nd_Ref_acts_250 : decode prog_7_method_14_code 250 = .ok (.aload_n 0, 1) := by decide +kernel
theorem nd_Ref_acts_251 : decode prog_7_method_14_code 251 = .ok (.getfield 30, 3) := by decide +kernel
theorem nd_Ref_acts_254 : decode prog_7_method_14_code 254 = .ok (.iload 5, 2) := by decide +kernel
theorem nd_Ref_acts_256 : decode prog_7_method_14_code 256 = .ok (.aload_n 0, 1) := by decide +kernel
theorem nd_Ref_acts_257 : decode prog_7_method_14_code 257 = .ok (.getfield 30, 3) := by decide +kernel
theorem nd_Ref_acts_260 : decode prog_7_method_14_code 260 = .ok (.iload 5, 2) := by decide +kernel
theorem nd_Ref_acts_262 : decode prog_7_method_14_code 262 = .ok (.iaload, 1) := by decide +kernel
theorem nd_Ref_acts_263 : decode prog_7_method_14_code 263 = .ok (.iload_n 1, 1) := by decide +kernel
theorem nd_Ref_acts_264 : decode prog_7_method_14_code 264 = .ok (.if_icmp .ne (7), 3) := by decide +kernel
theorem nd_Ref_acts_267 : decode prog_7_method_14_code 267 = .ok (.iconst 0, 1) := by decide +kernel
theorem nd_Ref_acts_268 : decode prog_7_method_14_code 268 = .ok (.goto (10), 3) := by decide +kernel
theorem nd_Ref_acts_271 : decode prog_7_method_14_code 271 = .ok (.aload_n 0, 1) := by decide +kernel
theorem nd_Ref_acts_272 : decode prog_7_method_14_code 272 = .ok (.getfield 30, 3) := by decide +kernel
theorem nd_Ref_acts_275 : decode prog_7_method_14_code 275 = .ok (.iload 5, 2) := by decide +kernel
theorem nd_Ref_acts_277 : decode prog_7_method_14_code 277 = .ok (.iaload, 1) := by decide +kernel
theorem nd_Ref_acts_278 : decode prog_7_method_14_code 278 = .ok (.iastore, 1) := by decide +kernel
theorem nd_Ref_acts_279 : decode prog_7_method_14_code 279 = .ok (.iinc 5 1, 3) := by decide +kernel
theorem nd_Ref_acts_282 : decode prog_7_method_14_code 282 = .ok (.goto (-41), 3) := by decide +kernel
theorem nd_Ref_acts_285 : decode prog_7_method_14_code 285 = .ok (.iload 4, 2) := by decide +kernel
theorem nd_Ref_acts_287 : decode prog_7_method_14_code 287 = .ok (.ifCond .le (8), 3) := by decide +kernel
theorem nd_Ref_acts_290 : decode prog_7_method_14_code 290 = .ok (.bipush (-14), 2) := by decide +kernel
theorem nd_Ref_acts_292 : decode prog_7_method_14_code 292 = .ok (.goto (4), 3) := by decide +kernel
theorem nd_Ref_acts_295 : decode prog_7_method_14_code 295 = .ok (.iconst 1, 1) := by decide +kernel
theorem nd_Ref_acts_296 : decode prog_7_method_14_code 296 = .ok (.ireturn, 1) := by decide +kernel
theorem nd_Ref_acts_297 : decode prog_7_method_14_code 297 = .ok (.iload 4, 2) := by decide +kernel
theorem nd_Ref_acts_299 : decode prog_7_method_14_code 299 = .ok (.ifCond .le (6), 3) := by decide +kernel
theorem nd_Ref_acts_302 : decode prog_7_method_14_code 302 = .ok (.bipush (-15), 2) := by decide +kernel
theorem nd_Ref_acts_304 : decode prog_7_method_14_code 304 = .ok (.ireturn, 1) := by decide +kernel
theorem nd_Ref_acts_305 : decode prog_7_method_14_code 305 = .ok (.aload_n 0, 1) := by decide +kernel
theorem nd_Ref_acts_306 : decode prog_7_method_14_code 306 = .ok (.getfield 22, 3) := by decide +kernel
theorem nd_Ref_acts_309 : decode prog_7_method_14_code 309 = .ok (.iload_n 1, 1) := by decide +kernel
theorem nd_Ref_acts_310 : decode prog_7_method_14_code 310 = .ok (.baload, 1) := by decide +kernel
theorem nd_Ref_acts_311 : decode prog_7_method_14_code 311 = .ok (.ifCond .eq (12), 3) := by decide +kernel
theorem nd_Ref_acts_314 : decode prog_7_method_14_code 314 = .ok (.aload_n 0, 1) := by decide +kernel
theorem nd_Ref_acts_315 : decode prog_7_method_14_code 315 = .ok (.getfield 22, 3) := by decide +kernel
theorem nd_Ref_acts_318 : decode prog_7_method_14_code 318 = .ok (.iload_n 1, 1) := by decide +kernel
theorem nd_Ref_acts_319 : decode prog_7_method_14_code 319 = .ok (.iconst 0, 1) := by decide +kernel
theorem nd_Ref_acts_320 : decode prog_7_method_14_code 320 = .ok (.bastore, 1) := by decide +kernel
theorem nd_Ref_acts_321 : decode prog_7_method_14_code 321 = .ok (.iconst 1, 1) := by decide +kernel
theorem nd_Ref_acts_322 : decode prog_7_method_14_code 322 = .ok (.ireturn, 1) := by decide +kernel
theorem nd_Ref_acts_323 : decode prog_7_method_14_code 323 = .ok (.aload_n 0, 1) := by decide +kernel
theorem nd_Ref_acts_324 : decode prog_7_method_14_code 324 = .ok (.getfield 16, 3) := by decide +kernel
theorem nd_Ref_acts_327 : decode prog_7_method_14_code 327 = .ok (.iload_n 1, 1) := by decide +kernel
theorem nd_Ref_acts_328 : decode prog_7_method_14_code 328 = .ok (.iconst 2, 1) := by decide +kernel
theorem nd_Ref_acts_329 : decode prog_7_method_14_code 329 = .ok (.iastore, 1) := by decide +kernel
theorem nd_Ref_acts_330 : decode prog_7_method_14_code 330 = .ok (.iconst 0, 1) := by decide +kernel
theorem nd_Ref_acts_331 : decode prog_7_method_14_code 331 = .ok (.ireturn, 1) := by decide +kernel
def lo_Ref_acts_241 (lat : Int64) (ln : (Nat → Int64)) (x1 : Int32) (x2 : Int32) (x3 : Int32) (w4 : Int32) : Nat → cr_S → Int32 → Int32 × cr_S
  | 0, rf_241, _ => (0, rf_241)
  | n_241 + 1, rf_241, v5_241 =>
    (if (rf_241 0 2) < v5_241 then (if w4 ≤ 0 then ((1 : Int32), rf_241) else ((-14 : Int32), rf_241)) else (if (rf_241 7 v5_241.toNatClampNeg) = x1 then (lo_Ref_acts_241 lat ln x1 x2 x3 w4 n_241 (cr_up rf_241 7 v5_241.toNatClampNeg (0 : Int32)) (v5_241 + (1 : Int32))) else (lo_Ref_acts_241 lat ln x1 x2 x3 w4 n_241 (cr_up rf_241 7 v5_241.toNatClampNeg (rf_241 7 v5_241.toNatClampNeg)) (v5_241 + (1 : Int32)))))
def md_Ref_acts (rf : cr_S) (lat : Int64) (ln : (Nat → Int64)) (x1 : Int32) (x2 : Int32) (x3 : Int32) : Int32 × cr_S :=
  (if x2 = 0 then (if (rf 3 x1.toNatClampNeg) = 0 then (if (md_Ref_runs (md_Ref_ready rf lat ln x1) lat ln x1) = 0 then ((0 : Int32), (md_Ref_ready rf lat ln x1)) else ((1 : Int32), (md_Ref_ready rf lat ln x1))) else ((-3 : Int32), rf)) else (if (rf 3 x1.toNatClampNeg) = 0 then ((-3 : Int32), rf) else (if x2 = (5 : Int32) then (if (rf 3 x1.toNatClampNeg) = (2 : Int32) then (if (md_Ref_runs (md_Ref_ready rf lat ln x1) lat ln x1) = 0 then ((0 : Int32), (md_Ref_ready rf lat ln x1)) else ((1 : Int32), (md_Ref_ready rf lat ln x1))) else (if (md_Ref_runs (cr_up rf 5 x1.toNatClampNeg (1 : Int32)) lat ln x1) = 0 then ((0 : Int32), (cr_up rf 5 x1.toNatClampNeg (1 : Int32))) else ((1 : Int32), (cr_up rf 5 x1.toNatClampNeg (1 : Int32))))) else (if (rf 3 x1.toNatClampNeg) = (2 : Int32) then ((-3 : Int32), rf) else (if (md_Ref_runs rf lat ln x1) = 0 then ((0 : Int32), rf) else (if x2 = (1 : Int32) then (if (lg_cmp (ln (((9 : Int32) * x1) + x3).toNatClampNeg) (0 : Int64)) = 0 then ((-11 : Int32), rf) else (if (rf 7 x3.toNatClampNeg) = x1 then ((-12 : Int32), rf) else (if (md_Ref_last rf lat ln x1) = 0 then ((1 : Int32), (cr_up (cr_up rf 7 x3.toNatClampNeg x1) 8 x3.toNatClampNeg (1 : Int32))) else ((1 : Int32), (cr_up (cr_up rf 7 x3.toNatClampNeg x1) 8 x3.toNatClampNeg (((cr_up rf 7 x3.toNatClampNeg x1) 8 (md_Ref_last rf lat ln x1).toNatClampNeg) + (1 : Int32))))))) else (if x2 = (2 : Int32) then (if (md_Ref_last rf lat ln x1) = 0 then ((-13 : Int32), rf) else (if (md_Ref_last rf lat ln x1) = x3 then ((1 : Int32), (cr_up rf 7 x3.toNatClampNeg (0 : Int32))) else ((-13 : Int32), rf))) else (if x2 = (3 : Int32) then (lo_Ref_acts_241 lat ln x1 x2 x3 (md_Ref_last rf lat ln x1) 9 (cr_up (cr_up rf 3 x1.toNatClampNeg (0 : Int32)) 5 x1.toNatClampNeg (0 : Int32)) (1 : Int32)) else (if (md_Ref_last rf lat ln x1) ≤ 0 then (if (rf 5 x1.toNatClampNeg) = 0 then ((0 : Int32), (cr_up rf 3 x1.toNatClampNeg (2 : Int32))) else ((1 : Int32), (cr_up rf 5 x1.toNatClampNeg (0 : Int32)))) else ((-15 : Int32), rf))))))))))
abbrev pq_Ref_acts (dC : Nat → ClassId) (dI : Nat → Nat → Nat) (cI cZ cJ : ClassId) (arf : Nat → Nat) (rf : cr_S) (lat : Int64) (ln : (Nat → Int64)) (x1 : Int32) (x2 : Int32) (x3 : Int32) (A : Nat → Prop) : Array Value → State → Outcome → State → Prop :=
  va_Qi (fun (r : Int32) (rf' : cr_S) => r = (md_Ref_acts rf lat ln x1 x2 x3).1 ∧ rf' = (md_Ref_acts rf lat ln x1 x2 x3).2 ∧ cr_RRef rf') (fun (rf' : cr_S) t => va_P (dC, dI) vwCl (cw_Ref cI cZ cJ arf rf' lat ln) t.heap ∧ va_K (dC, dI) vwCl [(cI, .int), (cZ, .boolean), (cJ, .long)] t ∧ va_D A (cw_Ref cI cZ cJ arf rf' lat ln)) A
set_option maxHeartbeats 4000000 in
set_option maxRecDepth 100000 in
theorem ct_Ref_acts (l : Launch) (dC : Nat → ClassId) (dI : Nat → Nat → Nat) (cI cZ cJ : ClassId) (arf : Nat → Nat) (sz : Nat) (rf : cr_S) (lat : Int64) (ln : (Nat → Int64)) (x1 : Int32) (x2 : Int32) (x3 : Int32) (hR_rf : cr_RRef rf) (hx1 : 0 ≤ x1.toInt ∧ x1.toInt ≤ 10) (hq : (x2.toInt ≠ 1 ∧ x2.toInt ≠ 2) ∨ (0 ≤ x3.toInt ∧ x3.toInt ≤ 8)) : Met l ny_Ref_acts nw_Ref_acts ({ frames := 4, cells := 0, slots := 0, locals := 91 } : Room) (va_Pc [.ref (arf 0), .int x1, .int x2, .int x3] (fun U => U.heap.size = sz ∧ va_P (dC, dI) vwCl (cw_Ref cI cZ cJ arf rf lat ln) U.heap ∧ va_K (dC, dI) vwCl [(cI, .int), (cZ, .boolean), (cJ, .long)] U ∧ va_D (fun _ => True) (cw_Ref cI cZ cJ arf rf lat ln))) (pq_Ref_acts dC dI cI cZ cJ arf rf lat ln x1 x2 x3 (va_A (cw_Ref cI cZ cJ arf rf lat ln) sz)) 0 0 (va_A (cw_Ref cI cZ cJ arf rf lat ln) sz) := by
  refine Met.ofW (cc := prog_7_method_14_code) (maxL := 6) (ret := (some .int)) (by decide) rfl ?_
  intro p e s m args below meth c s₁ B hml hv
  obtain ⟨rfl, hsz, hP, hK, hD0⟩ := hv
  have hx := B.exec
  have hb := B.bytes
  have hr := B.returns
  have hts0 := atoms_spec (ws := nw_Ref_acts) B.pre
  have hts : ∀ w ∈ ng_tbl, w.before ([.ref (arf 0), .int x1, .int x2, .int x3] : List Value).toArray s = true := fun w h => hts0 w (List.mem_cons_of_mem _ h)
  have hown : s.vm.findClass "CeilingRowsModel" = some m.cls := findClass_of_methodNamed B.named
  have hlocks := B.notSynchronized
  subst hsz
  have hD := hD0.self (sz := s.heap.size)
  generalize hAe : va_A (cw_Ref cI cZ cJ arf rf lat ln) s.heap.size = A at hD ⊢
  have hA : ∀ q : Nat, s.heap.size ≤ q → A q := fun q h => by rw [← hAe]; exact Or.inr h
  have hS : va_S A s.heap s.heap [] := va_S.rf
  have hP : va_P (dC, dI) vwCl (cw_Ref cI cZ cJ arf rf lat ln) s.heap := hP
  have hl := lv_entry ([.ref (arf 0), .int x1, .int x2, .int x3]) (n := 6) (Nat.le_of_ble_eq_true rfl)
  rw [lg_entry_eq]
  generalize (lg_sl ([.ref (arf 0), .int x1, .int x2, .int x3]) ++ List.replicate (6 - (lg_sl ([.ref (arf 0), .int x1, .int x2, .int x3])).length) Slot.unset).toArray = ls at hl ⊢
  have hl : lv_has ls 6 [(0, .ref (arf 0)), (1, .int x1), (2, .int x2), (3, .int x3)] := hl
  have f0_rf_0 := cr_rfo hR_rf.1
  have f0_rf_1 := cr_rfo hR_rf.2.1
  have k_m15 : (-15 : Int32).toInt = -15 := by decide
  have k_m14 : (-14 : Int32).toInt = -14 := by decide
  have k_m13 : (-13 : Int32).toInt = -13 := by decide
  have k_m12 : (-12 : Int32).toInt = -12 := by decide
  have k_m11 : (-11 : Int32).toInt = -11 := by decide
  have k_m3 : (-3 : Int32).toInt = -3 := by decide
  have k_0 : (0 : Int32).toInt = 0 := by decide
  have k_1 : (1 : Int32).toInt = 1 := by decide
  have k_2 : (2 : Int32).toInt = 2 := by decide
  have k_3 : (3 : Int32).toInt = 3 := by decide
  have k_5 : (5 : Int32).toInt = 5 := by decide
  have k_9 : (9 : Int32).toInt = 9 := by decide
  obtain ⟨tgt, hT⟩ : ∃ z, md_Ref_acts rf lat ln x1 x2 x3 = z := ⟨_, rfl⟩
  have hM := hT
  unfold md_Ref_acts at hM
  refine lv_iload_n hx hb nd_Ref_acts_0 rfl (lv_at hl 2 rfl) ?_
  refine lv_if_ne (tgt := 35) hx hb nd_Ref_acts_1 (by decide) (fun c_1 => ?_) (fun c_1 => ?_)
  · have c_1t := cr_ne c_1
    rw [if_neg c_1] at hM
    refine lv_aload_n hx hb nd_Ref_acts_35 rfl (lv_at hl 0 rfl) ?_
    refine va_get (D := (dC, dI)) (ci := 5) (v := .ref (arf 3)) (C := "CeilingRowsModel") (T := nf_Ref) (N := 22) hx hb hts nin_Ref hown hK hP 0 rfl rfl 3 (by decide) (hts _ tw_416) (fun _ h9 => h9) rfl nd_Ref_acts_36 ?_
    refine lv_iload_n hx hb nd_Ref_acts_39 rfl (lv_at hl 1 rfl) ?_
    have b_2 : vp_in x1 11 := vp_in_iff.mpr (by omega)
    refine va_iald hx hb hK hP 3 0 rfl rfl b_2 nd_Ref_acts_40 ?_
    refine lv_if_ne (tgt := 47) hx hb nd_Ref_acts_41 (by decide) (fun c_3 => ?_) (fun c_3 => ?_)
    · have c_3t := cr_ne c_3
      rw [if_neg c_3] at hM
      refine lv_iload_n hx hb nd_Ref_acts_47 rfl (lv_at hl 2 rfl) ?_
      refine lv_iconst (v := 5) hx hb nd_Ref_acts_48 (by decide) ?_
      refine lv_icmp_ne (tgt := 91) hx hb nd_Ref_acts_49 (by decide) (fun c_4 => ?_) (fun c_4 => ?_)
      · have c_4t := cr_ne c_4
        rw [if_neg c_4] at hM
        refine lv_aload_n hx hb nd_Ref_acts_91 rfl (lv_at hl 0 rfl) ?_
        refine va_get (D := (dC, dI)) (ci := 5) (v := .ref (arf 3)) (C := "CeilingRowsModel") (T := nf_Ref) (N := 22) hx hb hts nin_Ref hown hK hP 0 rfl rfl 3 (by decide) (hts _ tw_416) (fun _ h9 => h9) rfl nd_Ref_acts_92 ?_
        refine lv_iload_n hx hb nd_Ref_acts_95 rfl (lv_at hl 1 rfl) ?_
        have b_5 : vp_in x1 11 := vp_in_iff.mpr (by omega)
        refine va_iald hx hb hK hP 3 0 rfl rfl b_5 nd_Ref_acts_96 ?_
        refine lv_iconst (v := 2) hx hb nd_Ref_acts_97 (by decide) ?_
        refine lv_icmp_ne (tgt := 104) hx hb nd_Ref_acts_98 (by decide) (fun c_6 => ?_) (fun c_6 => ?_)
        · have c_6t := cr_ne c_6
          rw [if_neg c_6] at hM
          refine lv_aload_n hx hb nd_Ref_acts_104 rfl (lv_at hl 0 rfl) ?_
          refine lv_iload_n hx hb nd_Ref_acts_105 rfl (lv_at hl 1 rfl) ?_
          have hPc := hP
          have hDc := hD
          have hFc := va_free (wc := cw_Ref cI cZ cJ arf rf lat ln) hD hS hA [0, 1, 2, 3, 4, 5, 6, 7, 8, 9, 10, 11, 12, 13, 14, 15, 16, 17] rfl
          refine va_calli (va_runV (As := [.int x1]) (rest := []) ⟨hx, hb, hml, hown, hts⟩ (ct_Ref_runs l dC dI cI cZ cJ arf s.heap.size rf lat ln x1 hR_rf (by omega)) (cwV 1 hts (ng_V tw_523 tw_525 tp_23 tw_6 tw_526) rfl rfl rfl (by decide +kernel) ⟨Nat.le_of_ble_eq_true rfl, Nat.le_of_ble_eq_true rfl⟩) ⟨fun a U g mk q => by obtain ⟨q0, q1, qP, qK, qD⟩ := q; exact ⟨q0, q1, qP, va_K.moved (u := U) (U := U.calling g mk a) (Vm.Alike.refl U.vm) qK, qD⟩, va_recv hK hPc (ci := 5) (q0 := 0) rfl rfl, fun U hU hW => ⟨rfl, by rw [hU], by rw [hU]; exact hPc, va_K.moved hW.alike hK, hDc.weaken (fun _ _ _ _ => trivial)⟩⟩ rfl rfl hl.1 rfl (lv_room (Nat.le_of_ble_eq_true rfl)) nd_Ref_acts_106 ⟨Nat.zero_le _, Nat.zero_le _⟩) hS (fun q _ h => hFc q h) hFc (fun r_7 u t H1 locs ht hvm hw hB hz1 hk1 hS => ?_)
          obtain ⟨hP1, hK1, hD1⟩ := hB
          rw [ht] at hP1
          have w_8 := hw
          try rw [← w_8] at hM
          have hP := hP1
          have hD := cr_Dw hD1 hFc
          generalize H1 = H at hP hS ⊢
          refine lv_if_ne (tgt := 114) hx hb nd_Ref_acts_109 (by decide) (fun c_9 => ?_) (fun c_9 => ?_)
          · have c_9t := cr_ne c_9
            rw [if_neg c_9] at hM
            refine lv_aload_n hx hb nd_Ref_acts_114 rfl (lv_at hl 0 rfl) ?_
            refine lv_iload_n hx hb nd_Ref_acts_115 rfl (lv_at hl 1 rfl) ?_
            have hPc := hP
            have hDc := hD
            have hFc := va_free (wc := cw_Ref cI cZ cJ arf rf lat ln) hD hS hA [0, 1, 2, 3, 4, 5, 6, 7, 8, 9, 10, 11, 12, 13, 14, 15, 16, 17] rfl
            refine va_calli (va_runV (As := [.int x1]) (rest := []) ⟨hx, hb, hml, hown, hts⟩ (ct_Ref_last l dC dI cI cZ cJ arf H.size rf lat ln x1 hR_rf) (cwV 1 hts (ng_V tw_535 tw_537 tp_26 tw_6 tw_538) rfl rfl rfl (by decide +kernel) ⟨Nat.le_of_ble_eq_true rfl, Nat.le_of_ble_eq_true rfl⟩) ⟨fun a U g mk q => by obtain ⟨q0, q1, qP, qK, qD⟩ := q; exact ⟨q0, q1, qP, va_K.moved (u := U) (U := U.calling g mk a) (Vm.Alike.refl U.vm) qK, qD⟩, va_recv hK hPc (ci := 5) (q0 := 0) rfl rfl, fun U hU hW => ⟨rfl, by rw [hU], by rw [hU]; exact hPc, va_K.moved hW.alike hK, hDc.weaken (fun _ _ _ _ => trivial)⟩⟩ rfl rfl hl.1 rfl (lv_room (Nat.le_of_ble_eq_true rfl)) nd_Ref_acts_116 ⟨Nat.zero_le _, Nat.zero_le _⟩) hS (fun q _ h => hFc q h) hFc (fun r_10 u t H1 locs ht hvm hw hB hz1 hk1 hS => ?_)
            obtain ⟨hP1, hK1, hD1⟩ := hB
            rw [ht] at hP1
            obtain ⟨w_11, f_12⟩ := hw
            try rw [← w_11] at hM
            have hP := hP1
            have hD := cr_Dw hD1 hFc
            generalize H1 = H at hP hS ⊢
            refine lv_istore (lv' := [(4, .int r_10), (0, .ref (arf 0)), (1, .int x1), (2, .int x2), (3, .int x3)]) hx hb nd_Ref_acts_119 hl (by decide) rfl (fun ls hl => ?_)
            refine lv_iload_n hx hb nd_Ref_acts_121 rfl (lv_at hl 3 rfl) ?_
            refine lv_iconst (v := 1) hx hb nd_Ref_acts_122 (by decide) ?_
            refine lv_icmp_ne (tgt := 191) hx hb nd_Ref_acts_123 (by decide) (fun c_13 => ?_) (fun c_13 => ?_)
            · have c_13t := cr_ne c_13
              rw [if_neg c_13] at hM
              refine lv_iload_n hx hb nd_Ref_acts_191 rfl (lv_at hl 3 rfl) ?_
              refine lv_iconst (v := 2) hx hb nd_Ref_acts_192 (by decide) ?_
              refine lv_icmp_ne (tgt := 219) hx hb nd_Ref_acts_193 (by decide) (fun c_14 => ?_) (fun c_14 => ?_)
              · have c_14t := cr_ne c_14
                rw [if_neg c_14] at hM
                refine lv_iload_n hx hb nd_Ref_acts_219 rfl (lv_at hl 3 rfl) ?_
                refine lv_iconst (v := 3) hx hb nd_Ref_acts_220 (by decide) ?_
                refine lv_icmp_ne (tgt := 297) hx hb nd_Ref_acts_221 (by decide) (fun c_15 => ?_) (fun c_15 => ?_)
                · have c_15t := cr_ne c_15
                  rw [if_neg c_15] at hM
                  refine lv_iload hx hb nd_Ref_acts_297 (lv_at hl 0 rfl) ?_
                  refine lv_if_le (tgt := 305) hx hb nd_Ref_acts_299 (by decide) (fun c_16 => ?_) (fun c_16 => ?_)
                  · have c_16t := cr_le c_16
                    rw [if_pos c_16] at hM
                    refine lv_aload_n hx hb nd_Ref_acts_305 rfl (lv_at hl 1 rfl) ?_
                    refine va_get (D := (dC, dI)) (ci := 5) (v := .ref (arf 5)) (C := "CeilingRowsModel") (T := nf_Ref) (N := 22) hx hb hts nin_Ref hown hK hP 0 rfl rfl 6 (by decide) (hts _ tw_419) (fun _ h9 => h9) rfl nd_Ref_acts_306 ?_
                    refine lv_iload_n hx hb nd_Ref_acts_309 rfl (lv_at hl 2 rfl) ?_
                    have b_17 : vp_in x1 11 := vp_in_iff.mpr (by omega)
                    refine va_zald hx hb hK hP 5 1 rfl rfl b_17 nd_Ref_acts_310 ?_
                    refine lv_if_eq (tgt := 323) hx hb nd_Ref_acts_311 (by decide) (fun c_18 => ?_) (fun c_18 => ?_)
                    · have c_18t := cr_eq c_18
                      rw [if_pos c_18] at hM
                      refine lv_aload_n hx hb nd_Ref_acts_323 rfl (lv_at hl 1 rfl) ?_
                      refine va_get (D := (dC, dI)) (ci := 5) (v := .ref (arf 3)) (C := "CeilingRowsModel") (T := nf_Ref) (N := 22) hx hb hts nin_Ref hown hK hP 0 rfl rfl 3 (by decide) (hts _ tw_416) (fun _ h9 => h9) rfl nd_Ref_acts_324 ?_
                      refine lv_iload_n hx hb nd_Ref_acts_327 rfl (lv_at hl 2 rfl) ?_
                      refine lv_iconst (v := 2) hx hb nd_Ref_acts_328 (by decide) ?_
                      have b_19 : vp_in x1 11 := vp_in_iff.mpr (by omega)
                      refine va_iast hx hb hK hP hD hS 3 0 rfl rfl b_19 nd_Ref_acts_329 (fun H locs hP hD hS => ?_)
                      have hP : va_P (dC, dI) vwCl (cw_Ref cI cZ cJ arf (cr_up rf 3 x1.toNatClampNeg (2 : Int32)) lat ln) H := hP
                      have hD : va_D A (cw_Ref cI cZ cJ arf (cr_up rf 3 x1.toNatClampNeg (2 : Int32)) lat ln) := hD
                      have hR_20 : cr_RRef (cr_up rf 3 x1.toNatClampNeg (2 : Int32)) := ⟨cr_rf_up hR_rf.1 (fun e _ => absurd e (by decide)), cr_rf_up hR_rf.2.1 (fun e _ => absurd e (by decide)), cr_rg_up hR_rf.2.2.1 (fun e => absurd e (by decide)), cr_rg_up hR_rf.2.2.2.1 (fun e => absurd e (by decide)), cr_rg_up hR_rf.2.2.2.2.1 (fun e => absurd e (by decide)), cr_rh_up hR_rf.2.2.2.2.2 (fun e => absurd e (by decide))⟩
                      obtain ⟨rfq_21, hrfq_21⟩ : ∃ z, (cr_up rf 3 x1.toNatClampNeg (2 : Int32)) = z := ⟨_, rfl⟩
                      rw [hrfq_21] at hP hD hR_20
                      try rw [hrfq_21] at hM
                      refine lv_iconst (v := 0) hx hb nd_Ref_acts_330 (by decide) ?_
                      exact W.iret (v := (0 : Int32)) hx hb hr (fun t ht hW => ⟨⟨(0 : Int32), rfq_21, rfl, ⟨by rw [hT, ← hM], by rw [hT, ← hM], hR_20⟩, by rw [ht]; exact hP, va_K.moved hW.alike hK, hD⟩, hS.F ht⟩) hS.2.2 nd_Ref_acts_331
                    · have c_18t := cr_ne c_18
                      rw [if_neg c_18] at hM
                      refine lv_aload_n hx hb nd_Ref_acts_314 rfl (lv_at hl 1 rfl) ?_
                      refine va_get (D := (dC, dI)) (ci := 5) (v := .ref (arf 5)) (C := "CeilingRowsModel") (T := nf_Ref) (N := 22) hx hb hts nin_Ref hown hK hP 0 rfl rfl 6 (by decide) (hts _ tw_419) (fun _ h9 => h9) rfl nd_Ref_acts_315 ?_
                      refine lv_iload_n hx hb nd_Ref_acts_318 rfl (lv_at hl 2 rfl) ?_
                      refine lv_iconst (v := 0) hx hb nd_Ref_acts_319 (by decide) ?_
                      have b_22 : vp_in x1 11 := vp_in_iff.mpr (by omega)
                      refine va_zast hx hb hK hP hD hS 5 1 rfl rfl b_22 nd_Ref_acts_320 (fun H locs hP hD hS => ?_)
                      rw [show vp_nar .boolean (0 : Int32) = (0 : Int32) by decide] at hP hD
                      have hP : va_P (dC, dI) vwCl (cw_Ref cI cZ cJ arf (cr_up rf 5 x1.toNatClampNeg (0 : Int32)) lat ln) H := hP
                      have hD : va_D A (cw_Ref cI cZ cJ arf (cr_up rf 5 x1.toNatClampNeg (0 : Int32)) lat ln) := hD
                      have hR_23 : cr_RRef (cr_up rf 5 x1.toNatClampNeg (0 : Int32)) := ⟨cr_rf_up hR_rf.1 (fun e _ => absurd e (by decide)), cr_rf_up hR_rf.2.1 (fun e _ => absurd e (by decide)), cr_rg_up hR_rf.2.2.1 (fun e => absurd e (by decide)), cr_rg_up hR_rf.2.2.2.1 (fun e => absurd e (by decide)), cr_rg_up hR_rf.2.2.2.2.1 (fun e => absurd e (by decide)), cr_rh_up hR_rf.2.2.2.2.2 (fun e => absurd e (by decide))⟩
                      obtain ⟨rfq_24, hrfq_24⟩ : ∃ z, (cr_up rf 5 x1.toNatClampNeg (0 : Int32)) = z := ⟨_, rfl⟩
                      rw [hrfq_24] at hP hD hR_23
                      try rw [hrfq_24] at hM
                      refine lv_iconst (v := 1) hx hb nd_Ref_acts_321 (by decide) ?_
                      exact W.iret (v := (1 : Int32)) hx hb hr (fun t ht hW => ⟨⟨(1 : Int32), rfq_24, rfl, ⟨by rw [hT, ← hM], by rw [hT, ← hM], hR_23⟩, by rw [ht]; exact hP, va_K.moved hW.alike hK, hD⟩, hS.F ht⟩) hS.2.2 nd_Ref_acts_322
                  · have c_16t := cr_nle c_16
                    rw [if_neg c_16] at hM
                    refine lv_bipush (v := -15) hx hb nd_Ref_acts_302 (by decide) ?_
                    exact W.iret (v := (-15 : Int32)) hx hb hr (fun t ht hW => ⟨⟨(-15 : Int32), rf, rfl, ⟨by rw [hT, ← hM], by rw [hT, ← hM], hR_rf⟩, by rw [ht]; exact hP, va_K.moved hW.alike hK, hD⟩, hS.F ht⟩) hS.2.2 nd_Ref_acts_304
                · have c_15t := cr_eq c_15
                  rw [if_pos c_15] at hM
                  refine lv_aload_n hx hb nd_Ref_acts_224 rfl (lv_at hl 1 rfl) ?_
                  refine va_get (D := (dC, dI)) (ci := 5) (v := .ref (arf 3)) (C := "CeilingRowsModel") (T := nf_Ref) (N := 22) hx hb hts nin_Ref hown hK hP 0 rfl rfl 3 (by decide) (hts _ tw_416) (fun _ h9 => h9) rfl nd_Ref_acts_225 ?_
                  refine lv_iload_n hx hb nd_Ref_acts_228 rfl (lv_at hl 2 rfl) ?_
                  refine lv_iconst (v := 0) hx hb nd_Ref_acts_229 (by decide) ?_
                  have b_25 : vp_in x1 11 := vp_in_iff.mpr (by omega)
                  refine va_iast hx hb hK hP hD hS 3 0 rfl rfl b_25 nd_Ref_acts_230 (fun H locs hP hD hS => ?_)
                  have hP : va_P (dC, dI) vwCl (cw_Ref cI cZ cJ arf (cr_up rf 3 x1.toNatClampNeg (0 : Int32)) lat ln) H := hP
                  have hD : va_D A (cw_Ref cI cZ cJ arf (cr_up rf 3 x1.toNatClampNeg (0 : Int32)) lat ln) := hD
                  have hR_26 : cr_RRef (cr_up rf 3 x1.toNatClampNeg (0 : Int32)) := ⟨cr_rf_up hR_rf.1 (fun e _ => absurd e (by decide)), cr_rf_up hR_rf.2.1 (fun e _ => absurd e (by decide)), cr_rg_up hR_rf.2.2.1 (fun e => absurd e (by decide)), cr_rg_up hR_rf.2.2.2.1 (fun e => absurd e (by decide)), cr_rg_up hR_rf.2.2.2.2.1 (fun e => absurd e (by decide)), cr_rh_up hR_rf.2.2.2.2.2 (fun e => absurd e (by decide))⟩
                  obtain ⟨rfq_27, hrfq_27⟩ : ∃ z, (cr_up rf 3 x1.toNatClampNeg (0 : Int32)) = z := ⟨_, rfl⟩
                  rw [hrfq_27] at hP hD hR_26
                  try rw [hrfq_27] at hM
                  refine lv_aload_n hx hb nd_Ref_acts_231 rfl (lv_at hl 1 rfl) ?_
                  refine va_get (D := (dC, dI)) (ci := 5) (v := .ref (arf 5)) (C := "CeilingRowsModel") (T := nf_Ref) (N := 22) hx hb hts nin_Ref hown hK hP 0 rfl rfl 6 (by decide) (hts _ tw_419) (fun _ h9 => h9) rfl nd_Ref_acts_232 ?_
                  refine lv_iload_n hx hb nd_Ref_acts_235 rfl (lv_at hl 2 rfl) ?_
                  refine lv_iconst (v := 0) hx hb nd_Ref_acts_236 (by decide) ?_
                  have b_28 : vp_in x1 11 := vp_in_iff.mpr (by omega)
                  refine va_zast hx hb hK hP hD hS 5 1 rfl rfl b_28 nd_Ref_acts_237 (fun H locs hP hD hS => ?_)
                  rw [show vp_nar .boolean (0 : Int32) = (0 : Int32) by decide] at hP hD
                  have hP : va_P (dC, dI) vwCl (cw_Ref cI cZ cJ arf (cr_up rfq_27 5 x1.toNatClampNeg (0 : Int32)) lat ln) H := hP
                  have hD : va_D A (cw_Ref cI cZ cJ arf (cr_up rfq_27 5 x1.toNatClampNeg (0 : Int32)) lat ln) := hD
                  have hR_29 : cr_RRef (cr_up rfq_27 5 x1.toNatClampNeg (0 : Int32)) := ⟨cr_rf_up hR_26.1 (fun e _ => absurd e (by decide)), cr_rf_up hR_26.2.1 (fun e _ => absurd e (by decide)), cr_rg_up hR_26.2.2.1 (fun e => absurd e (by decide)), cr_rg_up hR_26.2.2.2.1 (fun e => absurd e (by decide)), cr_rg_up hR_26.2.2.2.2.1 (fun e => absurd e (by decide)), cr_rh_up hR_26.2.2.2.2.2 (fun e => absurd e (by decide))⟩
                  obtain ⟨rfq_30, hrfq_30⟩ : ∃ z, (cr_up rfq_27 5 x1.toNatClampNeg (0 : Int32)) = z := ⟨_, rfl⟩
                  rw [hrfq_30] at hP hD hR_29
                  try rw [hrfq_30] at hM
                  refine lv_iconst (v := 1) hx hb nd_Ref_acts_238 (by decide) ?_
                  refine lv_istore (lv' := [(5, .int (1 : Int32)), (4, .int r_10), (0, .ref (arf 0)), (1, .int x1), (2, .int x2), (3, .int x3)]) hx hb nd_Ref_acts_239 hl (by decide) rfl (fun ls hl => ?_)
                  have hl := lv_sub hl [2, 3, 1, 0] rfl
                  have lp_241 : ∀ (n_241 : Nat) (rf_241 : cr_S) (v5_241 : Int32), (cr_RRef rf_241) → (1 ≤ v5_241.toInt ∧ v5_241.toInt ≤ 9) → (9 < v5_241.toInt + (n_241 : Int)) → lo_Ref_acts_241 lat ln x1 x2 x3 r_10 n_241 rf_241 v5_241 = tgt → ∀ (H : Heap) (locs : List Loc), va_P (dC, dI) vwCl (cw_Ref cI cZ cJ arf rf_241 lat ln) H → va_D A (cw_Ref cI cZ cJ arf rf_241 lat ln) → va_S A s.heap H locs → ∀ ls : Array Slot, lv_has ls 6 [(0, .ref (arf 0)), (1, .int x1), (4, .int r_10), (5, .int v5_241)] → W p l e (headSpec nw_Ref_acts ({ frames := 4, cells := 0, slots := 0, locals := 91 } : Room)).room s m ([.ref (arf 0), .int x1, .int x2, .int x3] : List Value).toArray below meth c H locs 0 0 (MQ below (pq_Ref_acts dC dI cI cZ cJ arf rf lat ln x1 x2 x3 A) ([.ref (arf 0), .int x1, .int x2, .int x3] : List Value).toArray s 0 0 A) (F0 m 241 ls []) := by
                    intro n_241
                    induction n_241 with
                    | zero =>
                      intro rf_241 v5_241 hR_rf_241 hv5_241 hn_241
                      exfalso; omega
                    | succ n_241 ih_241 =>
                      intro rf_241 v5_241 hR_rf_241 hv5_241 hn_241 hM H locs hP hD hS ls hl
                      have hn_241 : 9 < v5_241.toInt + ((n_241 : Int) + 1) := by omega
                      rw [lo_Ref_acts_241] at hM
                      refine lv_iload hx hb nd_Ref_acts_241 (lv_at hl 3 rfl) ?_
                      refine lv_aload_n hx hb nd_Ref_acts_243 rfl (lv_at hl 0 rfl) ?_
                      refine va_get (D := (dC, dI)) (ci := 5) (v := .int (rf_241 0 2)) (C := "CeilingRowsModel") (T := nf_Ref) (N := 22) hx hb hts nin_Ref hown hK hP 0 rfl rfl 7 (by decide) (hts _ tw_420) (fun _ h9 => h9) rfl nd_Ref_acts_244 ?_
                      have f_31 := cr_rfo hR_rf_241.2.1
                      refine lv_icmp_gt (tgt := 285) hx hb nd_Ref_acts_247 (by decide) (fun c_32 => ?_) (fun c_32 => ?_)
                      · have c_32t := cr_lt c_32
                        rw [if_pos c_32] at hM
                        refine lv_iload hx hb nd_Ref_acts_285 (lv_at hl 2 rfl) ?_
                        refine lv_if_le (tgt := 295) hx hb nd_Ref_acts_287 (by decide) (fun c_33 => ?_) (fun c_33 => ?_)
                        · have c_33t := cr_le c_33
                          rw [if_pos c_33] at hM
                          refine lv_iconst (v := 1) hx hb nd_Ref_acts_295 (by decide) ?_
                          exact W.iret (v := (1 : Int32)) hx hb hr (fun t ht hW => ⟨⟨(1 : Int32), rf_241, rfl, ⟨by rw [hT, ← hM], by rw [hT, ← hM], hR_rf_241⟩, by rw [ht]; exact hP, va_K.moved hW.alike hK, hD⟩, hS.F ht⟩) hS.2.2 nd_Ref_acts_296
                        · have c_33t := cr_nle c_33
                          rw [if_neg c_33] at hM
                          refine lv_bipush (v := -14) hx hb nd_Ref_acts_290 (by decide) ?_
                          refine lv_goto (tgt := 296) hx hb nd_Ref_acts_292 (by decide) ?_
                          exact W.iret (v := (-14 : Int32)) hx hb hr (fun t ht hW => ⟨⟨(-14 : Int32), rf_241, rfl, ⟨by rw [hT, ← hM], by rw [hT, ← hM], hR_rf_241⟩, by rw [ht]; exact hP, va_K.moved hW.alike hK, hD⟩, hS.F ht⟩) hS.2.2 nd_Ref_acts_296
                      · have c_32t := cr_nlt c_32
                        rw [if_neg c_32] at hM
                        refine lv_aload_n hx hb nd_Ref_acts_250 rfl (lv_at hl 0 rfl) ?_
                        refine va_get (D := (dC, dI)) (ci := 5) (v := .ref (arf 7)) (C := "CeilingRowsModel") (T := nf_Ref) (N := 22) hx hb hts nin_Ref hown hK hP 0 rfl rfl 9 (by decide) (hts _ tw_422) (fun _ h9 => h9) rfl nd_Ref_acts_251 ?_
                        refine lv_iload hx hb nd_Ref_acts_254 (lv_at hl 3 rfl) ?_
                        refine lv_aload_n hx hb nd_Ref_acts_256 rfl (lv_at hl 0 rfl) ?_
                        refine va_get (D := (dC, dI)) (ci := 5) (v := .ref (arf 7)) (C := "CeilingRowsModel") (T := nf_Ref) (N := 22) hx hb hts nin_Ref hown hK hP 0 rfl rfl 9 (by decide) (hts _ tw_422) (fun _ h9 => h9) rfl nd_Ref_acts_257 ?_
                        refine lv_iload hx hb nd_Ref_acts_260 (lv_at hl 3 rfl) ?_
                        have b_34 : vp_in v5_241 9 := vp_in_iff.mpr (by omega)
                        refine va_iald hx hb hK hP 7 0 rfl rfl b_34 nd_Ref_acts_262 ?_
                        refine lv_iload_n hx hb nd_Ref_acts_263 rfl (lv_at hl 1 rfl) ?_
                        refine lv_icmp_ne (tgt := 271) hx hb nd_Ref_acts_264 (by decide) (fun c_35 => ?_) (fun c_35 => ?_)
                        · have c_35t := cr_ne c_35
                          rw [if_neg c_35] at hM
                          refine lv_aload_n hx hb nd_Ref_acts_271 rfl (lv_at hl 0 rfl) ?_
                          refine va_get (D := (dC, dI)) (ci := 5) (v := .ref (arf 7)) (C := "CeilingRowsModel") (T := nf_Ref) (N := 22) hx hb hts nin_Ref hown hK hP 0 rfl rfl 9 (by decide) (hts _ tw_422) (fun _ h9 => h9) rfl nd_Ref_acts_272 ?_
                          refine lv_iload hx hb nd_Ref_acts_275 (lv_at hl 3 rfl) ?_
                          have b_36 : vp_in v5_241 9 := vp_in_iff.mpr (by omega)
                          refine va_iald hx hb hK hP 7 0 rfl rfl b_36 nd_Ref_acts_277 ?_
                          have b_37 : vp_in v5_241 9 := vp_in_iff.mpr (by omega)
                          refine va_iast hx hb hK hP hD hS 7 0 rfl rfl b_37 nd_Ref_acts_278 (fun H locs hP hD hS => ?_)
                          have hP : va_P (dC, dI) vwCl (cw_Ref cI cZ cJ arf (cr_up rf_241 7 v5_241.toNatClampNeg (rf_241 7 v5_241.toNatClampNeg)) lat ln) H := hP
                          have hD : va_D A (cw_Ref cI cZ cJ arf (cr_up rf_241 7 v5_241.toNatClampNeg (rf_241 7 v5_241.toNatClampNeg)) lat ln) := hD
                          have hR_38 : cr_RRef (cr_up rf_241 7 v5_241.toNatClampNeg (rf_241 7 v5_241.toNatClampNeg)) := ⟨cr_rf_up hR_rf_241.1 (fun e _ => absurd e (by decide)), cr_rf_up hR_rf_241.2.1 (fun e _ => absurd e (by decide)), cr_rg_up hR_rf_241.2.2.1 (fun e => absurd e (by decide)), cr_rg_up hR_rf_241.2.2.2.1 (fun e => absurd e (by decide)), cr_rg_up hR_rf_241.2.2.2.2.1 (fun e => absurd e (by decide)), cr_rh_up hR_rf_241.2.2.2.2.2 (fun e => absurd e (by decide))⟩
                          obtain ⟨rfq_39, hrfq_39⟩ : ∃ z, (cr_up rf_241 7 v5_241.toNatClampNeg (rf_241 7 v5_241.toNatClampNeg)) = z := ⟨_, rfl⟩
                          rw [hrfq_39] at hP hD hR_38
                          try rw [hrfq_39] at hM
                          have e_40 : (v5_241 + (1 : Int32)).toInt = v5_241.toInt + (1 : Int32).toInt := cr_add (by omega)
                          refine lv_iinc (v := (v5_241 + (1 : Int32))) (lv' := [(5, .int (v5_241 + (1 : Int32))), (0, .ref (arf 0)), (1, .int x1), (4, .int r_10)]) hx hb nd_Ref_acts_279 hl (k := 3) rfl (by rfl) (by decide) rfl (fun ls hl => ?_)
                          refine lv_goto (tgt := 241) hx hb nd_Ref_acts_282 (by decide) ?_
                          exact ih_241 rfq_39 (v5_241 + (1 : Int32)) hR_38 (by omega) (by omega) hM _ _ hP hD hS _ (lv_sub hl [1, 2, 3, 0] rfl)
                        · have c_35t := cr_eq c_35
                          rw [if_pos c_35] at hM
                          refine lv_iconst (v := 0) hx hb nd_Ref_acts_267 (by decide) ?_
                          refine lv_goto (tgt := 278) hx hb nd_Ref_acts_268 (by decide) ?_
                          have b_41 : vp_in v5_241 9 := vp_in_iff.mpr (by omega)
                          refine va_iast hx hb hK hP hD hS 7 0 rfl rfl b_41 nd_Ref_acts_278 (fun H locs hP hD hS => ?_)
                          have hP : va_P (dC, dI) vwCl (cw_Ref cI cZ cJ arf (cr_up rf_241 7 v5_241.toNatClampNeg (0 : Int32)) lat ln) H := hP
                          have hD : va_D A (cw_Ref cI cZ cJ arf (cr_up rf_241 7 v5_241.toNatClampNeg (0 : Int32)) lat ln) := hD
                          have hR_42 : cr_RRef (cr_up rf_241 7 v5_241.toNatClampNeg (0 : Int32)) := ⟨cr_rf_up hR_rf_241.1 (fun e _ => absurd e (by decide)), cr_rf_up hR_rf_241.2.1 (fun e _ => absurd e (by decide)), cr_rg_up hR_rf_241.2.2.1 (fun e => absurd e (by decide)), cr_rg_up hR_rf_241.2.2.2.1 (fun e => absurd e (by decide)), cr_rg_up hR_rf_241.2.2.2.2.1 (fun e => absurd e (by decide)), cr_rh_up hR_rf_241.2.2.2.2.2 (fun e => absurd e (by decide))⟩
                          obtain ⟨rfq_43, hrfq_43⟩ : ∃ z, (cr_up rf_241 7 v5_241.toNatClampNeg (0 : Int32)) = z := ⟨_, rfl⟩
                          rw [hrfq_43] at hP hD hR_42
                          try rw [hrfq_43] at hM
                          have e_44 : (v5_241 + (1 : Int32)).toInt = v5_241.toInt + (1 : Int32).toInt := cr_add (by omega)
                          refine lv_iinc (v := (v5_241 + (1 : Int32))) (lv' := [(5, .int (v5_241 + (1 : Int32))), (0, .ref (arf 0)), (1, .int x1), (4, .int r_10)]) hx hb nd_Ref_acts_279 hl (k := 3) rfl (by rfl) (by decide) rfl (fun ls hl => ?_)
                          refine lv_goto (tgt := 241) hx hb nd_Ref_acts_282 (by decide) ?_
                          exact ih_241 rfq_43 (v5_241 + (1 : Int32)) hR_42 (by omega) (by omega) hM _ _ hP hD hS _ (lv_sub hl [1, 2, 3, 0] rfl)
                  exact lp_241 9 rfq_30 (1 : Int32) hR_29 (by omega) (by omega) hM _ _ hP hD hS _ hl
              · have c_14t := cr_eq c_14
                rw [if_pos c_14] at hM
                refine lv_iload hx hb nd_Ref_acts_196 (lv_at hl 0 rfl) ?_
                refine lv_if_eq (tgt := 207) hx hb nd_Ref_acts_198 (by decide) (fun c_45 => ?_) (fun c_45 => ?_)
                · have c_45t := cr_eq c_45
                  rw [if_pos c_45] at hM
                  refine lv_bipush (v := -13) hx hb nd_Ref_acts_207 (by decide) ?_
                  exact W.iret (v := (-13 : Int32)) hx hb hr (fun t ht hW => ⟨⟨(-13 : Int32), rf, rfl, ⟨by rw [hT, ← hM], by rw [hT, ← hM], hR_rf⟩, by rw [ht]; exact hP, va_K.moved hW.alike hK, hD⟩, hS.F ht⟩) hS.2.2 nd_Ref_acts_209
                · have c_45t := cr_ne c_45
                  rw [if_neg c_45] at hM
                  refine lv_iload hx hb nd_Ref_acts_201 (lv_at hl 0 rfl) ?_
                  refine lv_iload_n hx hb nd_Ref_acts_203 rfl (lv_at hl 4 rfl) ?_
                  refine lv_icmp_eq (tgt := 210) hx hb nd_Ref_acts_204 (by decide) (fun c_46 => ?_) (fun c_46 => ?_)
                  · have c_46t := cr_eq c_46
                    rw [if_pos c_46] at hM
                    refine lv_aload_n hx hb nd_Ref_acts_210 rfl (lv_at hl 1 rfl) ?_
                    refine va_get (D := (dC, dI)) (ci := 5) (v := .ref (arf 7)) (C := "CeilingRowsModel") (T := nf_Ref) (N := 22) hx hb hts nin_Ref hown hK hP 0 rfl rfl 9 (by decide) (hts _ tw_422) (fun _ h9 => h9) rfl nd_Ref_acts_211 ?_
                    refine lv_iload_n hx hb nd_Ref_acts_214 rfl (lv_at hl 4 rfl) ?_
                    refine lv_iconst (v := 0) hx hb nd_Ref_acts_215 (by decide) ?_
                    have b_47 : vp_in x3 9 := vp_in_iff.mpr (by omega)
                    refine va_iast hx hb hK hP hD hS 7 0 rfl rfl b_47 nd_Ref_acts_216 (fun H locs hP hD hS => ?_)
                    have hP : va_P (dC, dI) vwCl (cw_Ref cI cZ cJ arf (cr_up rf 7 x3.toNatClampNeg (0 : Int32)) lat ln) H := hP
                    have hD : va_D A (cw_Ref cI cZ cJ arf (cr_up rf 7 x3.toNatClampNeg (0 : Int32)) lat ln) := hD
                    have hR_48 : cr_RRef (cr_up rf 7 x3.toNatClampNeg (0 : Int32)) := ⟨cr_rf_up hR_rf.1 (fun e _ => absurd e (by decide)), cr_rf_up hR_rf.2.1 (fun e _ => absurd e (by decide)), cr_rg_up hR_rf.2.2.1 (fun e => absurd e (by decide)), cr_rg_up hR_rf.2.2.2.1 (fun e => absurd e (by decide)), cr_rg_up hR_rf.2.2.2.2.1 (fun e => absurd e (by decide)), cr_rh_up hR_rf.2.2.2.2.2 (fun e => absurd e (by decide))⟩
                    obtain ⟨rfq_49, hrfq_49⟩ : ∃ z, (cr_up rf 7 x3.toNatClampNeg (0 : Int32)) = z := ⟨_, rfl⟩
                    rw [hrfq_49] at hP hD hR_48
                    try rw [hrfq_49] at hM
                    refine lv_iconst (v := 1) hx hb nd_Ref_acts_217 (by decide) ?_
                    exact W.iret (v := (1 : Int32)) hx hb hr (fun t ht hW => ⟨⟨(1 : Int32), rfq_49, rfl, ⟨by rw [hT, ← hM], by rw [hT, ← hM], hR_48⟩, by rw [ht]; exact hP, va_K.moved hW.alike hK, hD⟩, hS.F ht⟩) hS.2.2 nd_Ref_acts_218
                  · have c_46t := cr_ne c_46
                    rw [if_neg c_46] at hM
                    refine lv_bipush (v := -13) hx hb nd_Ref_acts_207 (by decide) ?_
                    exact W.iret (v := (-13 : Int32)) hx hb hr (fun t ht hW => ⟨⟨(-13 : Int32), rf, rfl, ⟨by rw [hT, ← hM], by rw [hT, ← hM], hR_rf⟩, by rw [ht]; exact hP, va_K.moved hW.alike hK, hD⟩, hS.F ht⟩) hS.2.2 nd_Ref_acts_209
            · have c_13t := cr_eq c_13
              rw [if_pos c_13] at hM
              refine lv_aload_n hx hb nd_Ref_acts_126 rfl (lv_at hl 1 rfl) ?_
              refine va_get (D := (dC, dI)) (ci := 5) (v := .ref (arf 6)) (C := "CeilingRowsModel") (T := nf_Ref) (N := 22) hx hb hts nin_Ref hown hK hP 0 rfl rfl 8 (by decide) (hts _ tw_421) (fun _ h9 => h9) rfl nd_Ref_acts_127 ?_
              refine lv_bipush (v := 9) hx hb nd_Ref_acts_130 (by decide) ?_
              refine lv_iload_n hx hb nd_Ref_acts_132 rfl (lv_at hl 2 rfl) ?_
              refine lv_imul hx hb nd_Ref_acts_133 ?_
              have e_50 : ((9 : Int32) * x1).toInt = 9 * x1.toInt := cr_mulL 9 k_9 (by omega)
              refine lv_iload_n hx hb nd_Ref_acts_134 rfl (lv_at hl 4 rfl) ?_
              refine lv_iadd hx hb nd_Ref_acts_135 ?_
              have e_51 : (((9 : Int32) * x1) + x3).toInt = ((9 : Int32) * x1).toInt + x3.toInt := cr_add (by omega)
              have b_52 : vp_in (((9 : Int32) * x1) + x3) 99 := vp_in_iff.mpr (by omega)
              refine va_lald hx hb hK hP 6 2 rfl rfl b_52 nd_Ref_acts_136 ?_
              refine lv_lconst (v := 0) hx hb nd_Ref_acts_137 (by decide) ?_
              refine W.lcmp hx hb nd_Ref_acts_138 ?_
              refine lv_if_ne (tgt := 145) hx hb nd_Ref_acts_139 (by decide) (fun c_53 => ?_) (fun c_53 => ?_)
              · have c_53t := cr_ne c_53
                rw [if_neg c_53] at hM
                refine lv_aload_n hx hb nd_Ref_acts_145 rfl (lv_at hl 1 rfl) ?_
                refine va_get (D := (dC, dI)) (ci := 5) (v := .ref (arf 7)) (C := "CeilingRowsModel") (T := nf_Ref) (N := 22) hx hb hts nin_Ref hown hK hP 0 rfl rfl 9 (by decide) (hts _ tw_422) (fun _ h9 => h9) rfl nd_Ref_acts_146 ?_
                refine lv_iload_n hx hb nd_Ref_acts_149 rfl (lv_at hl 4 rfl) ?_
                have b_54 : vp_in x3 9 := vp_in_iff.mpr (by omega)
                refine va_iald hx hb hK hP 7 0 rfl rfl b_54 nd_Ref_acts_150 ?_
                refine lv_iload_n hx hb nd_Ref_acts_151 rfl (lv_at hl 2 rfl) ?_
                refine lv_icmp_ne (tgt := 158) hx hb nd_Ref_acts_152 (by decide) (fun c_55 => ?_) (fun c_55 => ?_)
                · have c_55t := cr_ne c_55
                  rw [if_neg c_55] at hM
                  refine lv_aload_n hx hb nd_Ref_acts_158 rfl (lv_at hl 1 rfl) ?_
                  refine va_get (D := (dC, dI)) (ci := 5) (v := .ref (arf 7)) (C := "CeilingRowsModel") (T := nf_Ref) (N := 22) hx hb hts nin_Ref hown hK hP 0 rfl rfl 9 (by decide) (hts _ tw_422) (fun _ h9 => h9) rfl nd_Ref_acts_159 ?_
                  refine lv_iload_n hx hb nd_Ref_acts_162 rfl (lv_at hl 4 rfl) ?_
                  refine lv_iload_n hx hb nd_Ref_acts_163 rfl (lv_at hl 2 rfl) ?_
                  have b_56 : vp_in x3 9 := vp_in_iff.mpr (by omega)
                  refine va_iast hx hb hK hP hD hS 7 0 rfl rfl b_56 nd_Ref_acts_164 (fun H locs hP hD hS => ?_)
                  have hP : va_P (dC, dI) vwCl (cw_Ref cI cZ cJ arf (cr_up rf 7 x3.toNatClampNeg x1) lat ln) H := hP
                  have hD : va_D A (cw_Ref cI cZ cJ arf (cr_up rf 7 x3.toNatClampNeg x1) lat ln) := hD
                  have hR_57 : cr_RRef (cr_up rf 7 x3.toNatClampNeg x1) := ⟨cr_rf_up hR_rf.1 (fun e _ => absurd e (by decide)), cr_rf_up hR_rf.2.1 (fun e _ => absurd e (by decide)), cr_rg_up hR_rf.2.2.1 (fun e => absurd e (by decide)), cr_rg_up hR_rf.2.2.2.1 (fun e => absurd e (by decide)), cr_rg_up hR_rf.2.2.2.2.1 (fun e => absurd e (by decide)), cr_rh_up hR_rf.2.2.2.2.2 (fun e => absurd e (by decide))⟩
                  obtain ⟨rfq_58, hrfq_58⟩ : ∃ z, (cr_up rf 7 x3.toNatClampNeg x1) = z := ⟨_, rfl⟩
                  rw [hrfq_58] at hP hD hR_57
                  try rw [hrfq_58] at hM
                  refine lv_aload_n hx hb nd_Ref_acts_165 rfl (lv_at hl 1 rfl) ?_
                  refine va_get (D := (dC, dI)) (ci := 5) (v := .ref (arf 8)) (C := "CeilingRowsModel") (T := nf_Ref) (N := 22) hx hb hts nin_Ref hown hK hP 0 rfl rfl 10 (by decide) (hts _ tw_423) (fun _ h9 => h9) rfl nd_Ref_acts_166 ?_
                  refine lv_iload_n hx hb nd_Ref_acts_169 rfl (lv_at hl 4 rfl) ?_
                  refine lv_iload hx hb nd_Ref_acts_170 (lv_at hl 0 rfl) ?_
                  refine lv_if_ne (tgt := 179) hx hb nd_Ref_acts_172 (by decide) (fun c_59 => ?_) (fun c_59 => ?_)
                  · have c_59t := cr_ne c_59
                    rw [if_neg c_59] at hM
                    refine lv_aload_n hx hb nd_Ref_acts_179 rfl (lv_at hl 1 rfl) ?_
                    refine va_get (D := (dC, dI)) (ci := 5) (v := .ref (arf 8)) (C := "CeilingRowsModel") (T := nf_Ref) (N := 22) hx hb hts nin_Ref hown hK hP 0 rfl rfl 10 (by decide) (hts _ tw_423) (fun _ h9 => h9) rfl nd_Ref_acts_180 ?_
                    refine lv_iload hx hb nd_Ref_acts_183 (lv_at hl 0 rfl) ?_
                    have b_60 : vp_in r_10 9 := vp_in_iff.mpr (by omega)
                    refine va_iald hx hb hK hP 8 0 rfl rfl b_60 nd_Ref_acts_185 ?_
                    refine lv_iconst (v := 1) hx hb nd_Ref_acts_186 (by decide) ?_
                    refine lv_iadd hx hb nd_Ref_acts_187 ?_
                    have b_61 : vp_in x3 9 := vp_in_iff.mpr (by omega)
                    refine va_iast hx hb hK hP hD hS 8 0 rfl rfl b_61 nd_Ref_acts_188 (fun H locs hP hD hS => ?_)
                    have hP : va_P (dC, dI) vwCl (cw_Ref cI cZ cJ arf (cr_up rfq_58 8 x3.toNatClampNeg ((rfq_58 8 r_10.toNatClampNeg) + (1 : Int32))) lat ln) H := hP
                    have hD : va_D A (cw_Ref cI cZ cJ arf (cr_up rfq_58 8 x3.toNatClampNeg ((rfq_58 8 r_10.toNatClampNeg) + (1 : Int32))) lat ln) := hD
                    have hR_62 : cr_RRef (cr_up rfq_58 8 x3.toNatClampNeg ((rfq_58 8 r_10.toNatClampNeg) + (1 : Int32))) := ⟨cr_rf_up hR_57.1 (fun e _ => absurd e (by decide)), cr_rf_up hR_57.2.1 (fun e _ => absurd e (by decide)), cr_rg_up hR_57.2.2.1 (fun e => absurd e (by decide)), cr_rg_up hR_57.2.2.2.1 (fun e => absurd e (by decide)), cr_rg_up hR_57.2.2.2.2.1 (fun e => absurd e (by decide)), cr_rh_up hR_57.2.2.2.2.2 (fun e => absurd e (by decide))⟩
                    obtain ⟨rfq_63, hrfq_63⟩ : ∃ z, (cr_up rfq_58 8 x3.toNatClampNeg ((rfq_58 8 r_10.toNatClampNeg) + (1 : Int32))) = z := ⟨_, rfl⟩
                    rw [hrfq_63] at hP hD hR_62
                    try rw [hrfq_63] at hM
                    refine lv_iconst (v := 1) hx hb nd_Ref_acts_189 (by decide) ?_
                    exact W.iret (v := (1 : Int32)) hx hb hr (fun t ht hW => ⟨⟨(1 : Int32), rfq_63, rfl, ⟨by rw [hT, ← hM], by rw [hT, ← hM], hR_62⟩, by rw [ht]; exact hP, va_K.moved hW.alike hK, hD⟩, hS.F ht⟩) hS.2.2 nd_Ref_acts_190
                  · have c_59t := cr_eq c_59
                    rw [if_pos c_59] at hM
                    refine lv_iconst (v := 1) hx hb nd_Ref_acts_175 (by decide) ?_
                    refine lv_goto (tgt := 188) hx hb nd_Ref_acts_176 (by decide) ?_
                    have b_64 : vp_in x3 9 := vp_in_iff.mpr (by omega)
                    refine va_iast hx hb hK hP hD hS 8 0 rfl rfl b_64 nd_Ref_acts_188 (fun H locs hP hD hS => ?_)
                    have hP : va_P (dC, dI) vwCl (cw_Ref cI cZ cJ arf (cr_up rfq_58 8 x3.toNatClampNeg (1 : Int32)) lat ln) H := hP
                    have hD : va_D A (cw_Ref cI cZ cJ arf (cr_up rfq_58 8 x3.toNatClampNeg (1 : Int32)) lat ln) := hD
                    have hR_65 : cr_RRef (cr_up rfq_58 8 x3.toNatClampNeg (1 : Int32)) := ⟨cr_rf_up hR_57.1 (fun e _ => absurd e (by decide)), cr_rf_up hR_57.2.1 (fun e _ => absurd e (by decide)), cr_rg_up hR_57.2.2.1 (fun e => absurd e (by decide)), cr_rg_up hR_57.2.2.2.1 (fun e => absurd e (by decide)), cr_rg_up hR_57.2.2.2.2.1 (fun e => absurd e (by decide)), cr_rh_up hR_57.2.2.2.2.2 (fun e => absurd e (by decide))⟩
                    obtain ⟨rfq_66, hrfq_66⟩ : ∃ z, (cr_up rfq_58 8 x3.toNatClampNeg (1 : Int32)) = z := ⟨_, rfl⟩
                    rw [hrfq_66] at hP hD hR_65
                    try rw [hrfq_66] at hM
                    refine lv_iconst (v := 1) hx hb nd_Ref_acts_189 (by decide) ?_
                    exact W.iret (v := (1 : Int32)) hx hb hr (fun t ht hW => ⟨⟨(1 : Int32), rfq_66, rfl, ⟨by rw [hT, ← hM], by rw [hT, ← hM], hR_65⟩, by rw [ht]; exact hP, va_K.moved hW.alike hK, hD⟩, hS.F ht⟩) hS.2.2 nd_Ref_acts_190
                · have c_55t := cr_eq c_55
                  rw [if_pos c_55] at hM
                  refine lv_bipush (v := -12) hx hb nd_Ref_acts_155 (by decide) ?_
                  exact W.iret (v := (-12 : Int32)) hx hb hr (fun t ht hW => ⟨⟨(-12 : Int32), rf, rfl, ⟨by rw [hT, ← hM], by rw [hT, ← hM], hR_rf⟩, by rw [ht]; exact hP, va_K.moved hW.alike hK, hD⟩, hS.F ht⟩) hS.2.2 nd_Ref_acts_157
              · have c_53t := cr_eq c_53
                rw [if_pos c_53] at hM
                refine lv_bipush (v := -11) hx hb nd_Ref_acts_142 (by decide) ?_
                exact W.iret (v := (-11 : Int32)) hx hb hr (fun t ht hW => ⟨⟨(-11 : Int32), rf, rfl, ⟨by rw [hT, ← hM], by rw [hT, ← hM], hR_rf⟩, by rw [ht]; exact hP, va_K.moved hW.alike hK, hD⟩, hS.F ht⟩) hS.2.2 nd_Ref_acts_144
          · have c_9t := cr_eq c_9
            rw [if_pos c_9] at hM
            refine lv_iconst (v := 0) hx hb nd_Ref_acts_112 (by decide) ?_
            exact W.iret (v := (0 : Int32)) hx hb hr (fun t ht hW => ⟨⟨(0 : Int32), rf, rfl, ⟨by rw [hT, ← hM], by rw [hT, ← hM], hR_rf⟩, by rw [ht]; exact hP, va_K.moved hW.alike hK, hD⟩, hS.F ht⟩) hS.2.2 nd_Ref_acts_113
        · have c_6t := cr_eq c_6
          rw [if_pos c_6] at hM
          refine lv_bipush (v := -3) hx hb nd_Ref_acts_101 (by decide) ?_
          exact W.iret (v := (-3 : Int32)) hx hb hr (fun t ht hW => ⟨⟨(-3 : Int32), rf, rfl, ⟨by rw [hT, ← hM], by rw [hT, ← hM], hR_rf⟩, by rw [ht]; exact hP, va_K.moved hW.alike hK, hD⟩, hS.F ht⟩) hS.2.2 nd_Ref_acts_103
      · have c_4t := cr_eq c_4
        rw [if_pos c_4] at hM
        refine lv_aload_n hx hb nd_Ref_acts_52 rfl (lv_at hl 0 rfl) ?_
        refine va_get (D := (dC, dI)) (ci := 5) (v := .ref (arf 3)) (C := "CeilingRowsModel") (T := nf_Ref) (N := 22) hx hb hts nin_Ref hown hK hP 0 rfl rfl 3 (by decide) (hts _ tw_416) (fun _ h9 => h9) rfl nd_Ref_acts_53 ?_
        refine lv_iload_n hx hb nd_Ref_acts_56 rfl (lv_at hl 1 rfl) ?_
        have b_67 : vp_in x1 11 := vp_in_iff.mpr (by omega)
        refine va_iald hx hb hK hP 3 0 rfl rfl b_67 nd_Ref_acts_57 ?_
        refine lv_iconst (v := 2) hx hb nd_Ref_acts_58 (by decide) ?_
        refine lv_icmp_ne (tgt := 70) hx hb nd_Ref_acts_59 (by decide) (fun c_68 => ?_) (fun c_68 => ?_)
        · have c_68t := cr_ne c_68
          rw [if_neg c_68] at hM
          refine lv_aload_n hx hb nd_Ref_acts_70 rfl (lv_at hl 0 rfl) ?_
          refine va_get (D := (dC, dI)) (ci := 5) (v := .ref (arf 5)) (C := "CeilingRowsModel") (T := nf_Ref) (N := 22) hx hb hts nin_Ref hown hK hP 0 rfl rfl 6 (by decide) (hts _ tw_419) (fun _ h9 => h9) rfl nd_Ref_acts_71 ?_
          refine lv_iload_n hx hb nd_Ref_acts_74 rfl (lv_at hl 1 rfl) ?_
          refine lv_iconst (v := 1) hx hb nd_Ref_acts_75 (by decide) ?_
          have b_69 : vp_in x1 11 := vp_in_iff.mpr (by omega)
          refine va_zast hx hb hK hP hD hS 5 1 rfl rfl b_69 nd_Ref_acts_76 (fun H locs hP hD hS => ?_)
          rw [show vp_nar .boolean (1 : Int32) = (1 : Int32) by decide] at hP hD
          have hP : va_P (dC, dI) vwCl (cw_Ref cI cZ cJ arf (cr_up rf 5 x1.toNatClampNeg (1 : Int32)) lat ln) H := hP
          have hD : va_D A (cw_Ref cI cZ cJ arf (cr_up rf 5 x1.toNatClampNeg (1 : Int32)) lat ln) := hD
          have hR_70 : cr_RRef (cr_up rf 5 x1.toNatClampNeg (1 : Int32)) := ⟨cr_rf_up hR_rf.1 (fun e _ => absurd e (by decide)), cr_rf_up hR_rf.2.1 (fun e _ => absurd e (by decide)), cr_rg_up hR_rf.2.2.1 (fun e => absurd e (by decide)), cr_rg_up hR_rf.2.2.2.1 (fun e => absurd e (by decide)), cr_rg_up hR_rf.2.2.2.2.1 (fun e => absurd e (by decide)), cr_rh_up hR_rf.2.2.2.2.2 (fun e => absurd e (by decide))⟩
          obtain ⟨rfq_71, hrfq_71⟩ : ∃ z, (cr_up rf 5 x1.toNatClampNeg (1 : Int32)) = z := ⟨_, rfl⟩
          rw [hrfq_71] at hP hD hR_70
          try rw [hrfq_71] at hM
          refine lv_aload_n hx hb nd_Ref_acts_77 rfl (lv_at hl 0 rfl) ?_
          refine lv_iload_n hx hb nd_Ref_acts_78 rfl (lv_at hl 1 rfl) ?_
          have hPc := hP
          have hDc := hD
          have hFc := va_free (wc := cw_Ref cI cZ cJ arf rfq_71 lat ln) hD hS hA [0, 1, 2, 3, 4, 5, 6, 7, 8, 9, 10, 11, 12, 13, 14, 15, 16, 17] rfl
          refine va_calli (va_runV (As := [.int x1]) (rest := []) ⟨hx, hb, hml, hown, hts⟩ (ct_Ref_runs l dC dI cI cZ cJ arf H.size rfq_71 lat ln x1 hR_70 (by omega)) (cwV 1 hts (ng_V tw_523 tw_525 tp_23 tw_6 tw_526) rfl rfl rfl (by decide +kernel) ⟨Nat.le_of_ble_eq_true rfl, Nat.le_of_ble_eq_true rfl⟩) ⟨fun a U g mk q => by obtain ⟨q0, q1, qP, qK, qD⟩ := q; exact ⟨q0, q1, qP, va_K.moved (u := U) (U := U.calling g mk a) (Vm.Alike.refl U.vm) qK, qD⟩, va_recv hK hPc (ci := 5) (q0 := 0) rfl rfl, fun U hU hW => ⟨rfl, by rw [hU], by rw [hU]; exact hPc, va_K.moved hW.alike hK, hDc.weaken (fun _ _ _ _ => trivial)⟩⟩ rfl rfl hl.1 rfl (lv_room (Nat.le_of_ble_eq_true rfl)) nd_Ref_acts_79 ⟨Nat.zero_le _, Nat.zero_le _⟩) hS (fun q _ h => hFc q h) hFc (fun r_72 u t H1 locs ht hvm hw hB hz1 hk1 hS => ?_)
          obtain ⟨hP1, hK1, hD1⟩ := hB
          rw [ht] at hP1
          have w_73 := hw
          try rw [← w_73] at hM
          have hP := hP1
          have hD := cr_Dw hD1 hFc
          generalize H1 = H at hP hS ⊢
          refine lv_if_eq (tgt := 89) hx hb nd_Ref_acts_82 (by decide) (fun c_74 => ?_) (fun c_74 => ?_)
          · have c_74t := cr_eq c_74
            rw [if_pos c_74] at hM
            refine lv_iconst (v := 0) hx hb nd_Ref_acts_89 (by decide) ?_
            exact W.iret (v := (0 : Int32)) hx hb hr (fun t ht hW => ⟨⟨(0 : Int32), rfq_71, rfl, ⟨by rw [hT, ← hM], by rw [hT, ← hM], hR_70⟩, by rw [ht]; exact hP, va_K.moved hW.alike hK, hD⟩, hS.F ht⟩) hS.2.2 nd_Ref_acts_90
          · have c_74t := cr_ne c_74
            rw [if_neg c_74] at hM
            refine lv_iconst (v := 1) hx hb nd_Ref_acts_85 (by decide) ?_
            refine lv_goto (tgt := 90) hx hb nd_Ref_acts_86 (by decide) ?_
            exact W.iret (v := (1 : Int32)) hx hb hr (fun t ht hW => ⟨⟨(1 : Int32), rfq_71, rfl, ⟨by rw [hT, ← hM], by rw [hT, ← hM], hR_70⟩, by rw [ht]; exact hP, va_K.moved hW.alike hK, hD⟩, hS.F ht⟩) hS.2.2 nd_Ref_acts_90
        · have c_68t := cr_eq c_68
          rw [if_pos c_68] at hM
          refine lv_aload_n hx hb nd_Ref_acts_62 rfl (lv_at hl 0 rfl) ?_
          refine lv_iload_n hx hb nd_Ref_acts_63 rfl (lv_at hl 1 rfl) ?_
          have hPc := hP
          have hDc := hD
          have hFc := va_free (wc := cw_Ref cI cZ cJ arf rf lat ln) hD hS hA [0, 1, 2, 3, 4, 5, 6, 7, 8, 9, 10, 11, 12, 13, 14, 15, 16, 17] rfl
          refine va_callv (va_runV (As := [.int x1]) (rest := []) ⟨hx, hb, hml, hown, hts⟩ (ct_Ref_ready l dC dI cI cZ cJ arf s.heap.size rf lat ln x1 hR_rf (by omega)) (cwV 1 hts (ng_V tw_519 tw_521 tp_22 tw_6 tw_522) rfl rfl rfl (by decide +kernel) ⟨Nat.le_of_ble_eq_true rfl, Nat.le_of_ble_eq_true rfl⟩) ⟨fun a U g mk q => by obtain ⟨q0, q1, qP, qK, qD⟩ := q; exact ⟨q0, q1, qP, va_K.moved (u := U) (U := U.calling g mk a) (Vm.Alike.refl U.vm) qK, qD⟩, va_recv hK hPc (ci := 5) (q0 := 0) rfl rfl, fun U hU hW => ⟨rfl, by rw [hU], by rw [hU]; exact hPc, va_K.moved hW.alike hK, hDc.weaken (fun _ _ _ _ => trivial)⟩⟩ rfl rfl hl.1 rfl (lv_room (Nat.le_of_ble_eq_true rfl)) nd_Ref_acts_64 ⟨Nat.zero_le _, Nat.zero_le _⟩) hS (fun q _ h => hFc q h) hFc (fun u t H1 locs ht hvm hw hB hz1 hk1 hS => ?_)
          obtain ⟨hP1, hK1, hD1⟩ := hB
          rw [ht] at hP1
          obtain ⟨rfq_76, rfl⟩ : ∃ z, z = u := ⟨_, rfl⟩
          obtain ⟨w_77, hR_78⟩ := hw
          try rw [← w_77] at hM
          have hP := hP1
          have hD := cr_Dw hD1 hFc
          generalize H1 = H at hP hS ⊢
          refine lv_goto (tgt := 77) hx hb nd_Ref_acts_67 (by decide) ?_
          refine lv_aload_n hx hb nd_Ref_acts_77 rfl (lv_at hl 0 rfl) ?_
          refine lv_iload_n hx hb nd_Ref_acts_78 rfl (lv_at hl 1 rfl) ?_
          have hPc := hP
          have hDc := hD
          have hFc := va_free (wc := cw_Ref cI cZ cJ arf rfq_76 lat ln) hD hS hA [0, 1, 2, 3, 4, 5, 6, 7, 8, 9, 10, 11, 12, 13, 14, 15, 16, 17] rfl
          refine va_calli (va_runV (As := [.int x1]) (rest := []) ⟨hx, hb, hml, hown, hts⟩ (ct_Ref_runs l dC dI cI cZ cJ arf H.size rfq_76 lat ln x1 hR_78 (by omega)) (cwV 1 hts (ng_V tw_523 tw_525 tp_23 tw_6 tw_526) rfl rfl rfl (by decide +kernel) ⟨Nat.le_of_ble_eq_true rfl, Nat.le_of_ble_eq_true rfl⟩) ⟨fun a U g mk q => by obtain ⟨q0, q1, qP, qK, qD⟩ := q; exact ⟨q0, q1, qP, va_K.moved (u := U) (U := U.calling g mk a) (Vm.Alike.refl U.vm) qK, qD⟩, va_recv hK hPc (ci := 5) (q0 := 0) rfl rfl, fun U hU hW => ⟨rfl, by rw [hU], by rw [hU]; exact hPc, va_K.moved hW.alike hK, hDc.weaken (fun _ _ _ _ => trivial)⟩⟩ rfl rfl hl.1 rfl (lv_room (Nat.le_of_ble_eq_true rfl)) nd_Ref_acts_79 ⟨Nat.zero_le _, Nat.zero_le _⟩) hS (fun q _ h => hFc q h) hFc (fun r_79 u t H1 locs ht hvm hw hB hz1 hk1 hS => ?_)
          obtain ⟨hP1, hK1, hD1⟩ := hB
          rw [ht] at hP1
          have w_80 := hw
          try rw [← w_80] at hM
          have hP := hP1
          have hD := cr_Dw hD1 hFc
          generalize H1 = H at hP hS ⊢
          refine lv_if_eq (tgt := 89) hx hb nd_Ref_acts_82 (by decide) (fun c_81 => ?_) (fun c_81 => ?_)
          · have c_81t := cr_eq c_81
            rw [if_pos c_81] at hM
            refine lv_iconst (v := 0) hx hb nd_Ref_acts_89 (by decide) ?_
            exact W.iret (v := (0 : Int32)) hx hb hr (fun t ht hW => ⟨⟨(0 : Int32), rfq_76, rfl, ⟨by rw [hT, ← hM], by rw [hT, ← hM], hR_78⟩, by rw [ht]; exact hP, va_K.moved hW.alike hK, hD⟩, hS.F ht⟩) hS.2.2 nd_Ref_acts_90
          · have c_81t := cr_ne c_81
            rw [if_neg c_81] at hM
            refine lv_iconst (v := 1) hx hb nd_Ref_acts_85 (by decide) ?_
            refine lv_goto (tgt := 90) hx hb nd_Ref_acts_86 (by decide) ?_
            exact W.iret (v := (1 : Int32)) hx hb hr (fun t ht hW => ⟨⟨(1 : Int32), rfq_76, rfl, ⟨by rw [hT, ← hM], by rw [hT, ← hM], hR_78⟩, by rw [ht]; exact hP, va_K.moved hW.alike hK, hD⟩, hS.F ht⟩) hS.2.2 nd_Ref_acts_90
    · have c_3t := cr_eq c_3
      rw [if_pos c_3] at hM
      refine lv_bipush (v := -3) hx hb nd_Ref_acts_44 (by decide) ?_
      exact W.iret (v := (-3 : Int32)) hx hb hr (fun t ht hW => ⟨⟨(-3 : Int32), rf, rfl, ⟨by rw [hT, ← hM], by rw [hT, ← hM], hR_rf⟩, by rw [ht]; exact hP, va_K.moved hW.alike hK, hD⟩, hS.F ht⟩) hS.2.2 nd_Ref_acts_46
  · have c_1t := cr_eq c_1
    rw [if_pos c_1] at hM
    refine lv_aload_n hx hb nd_Ref_acts_4 rfl (lv_at hl 0 rfl) ?_
    refine va_get (D := (dC, dI)) (ci := 5) (v := .ref (arf 3)) (C := "CeilingRowsModel") (T := nf_Ref) (N := 22) hx hb hts nin_Ref hown hK hP 0 rfl rfl 3 (by decide) (hts _ tw_416) (fun _ h9 => h9) rfl nd_Ref_acts_5 ?_
    refine lv_iload_n hx hb nd_Ref_acts_8 rfl (lv_at hl 1 rfl) ?_
    have b_82 : vp_in x1 11 := vp_in_iff.mpr (by omega)
    refine va_iald hx hb hK hP 3 0 rfl rfl b_82 nd_Ref_acts_9 ?_
    refine lv_if_eq (tgt := 16) hx hb nd_Ref_acts_10 (by decide) (fun c_83 => ?_) (fun c_83 => ?_)
    · have c_83t := cr_eq c_83
      rw [if_pos c_83] at hM
      refine lv_aload_n hx hb nd_Ref_acts_16 rfl (lv_at hl 0 rfl) ?_
      refine lv_iload_n hx hb nd_Ref_acts_17 rfl (lv_at hl 1 rfl) ?_
      have hPc := hP
      have hDc := hD
      have hFc := va_free (wc := cw_Ref cI cZ cJ arf rf lat ln) hD hS hA [0, 1, 2, 3, 4, 5, 6, 7, 8, 9, 10, 11, 12, 13, 14, 15, 16, 17] rfl
      refine va_callv (va_runV (As := [.int x1]) (rest := []) ⟨hx, hb, hml, hown, hts⟩ (ct_Ref_ready l dC dI cI cZ cJ arf s.heap.size rf lat ln x1 hR_rf (by omega)) (cwV 1 hts (ng_V tw_519 tw_521 tp_22 tw_6 tw_522) rfl rfl rfl (by decide +kernel) ⟨Nat.le_of_ble_eq_true rfl, Nat.le_of_ble_eq_true rfl⟩) ⟨fun a U g mk q => by obtain ⟨q0, q1, qP, qK, qD⟩ := q; exact ⟨q0, q1, qP, va_K.moved (u := U) (U := U.calling g mk a) (Vm.Alike.refl U.vm) qK, qD⟩, va_recv hK hPc (ci := 5) (q0 := 0) rfl rfl, fun U hU hW => ⟨rfl, by rw [hU], by rw [hU]; exact hPc, va_K.moved hW.alike hK, hDc.weaken (fun _ _ _ _ => trivial)⟩⟩ rfl rfl hl.1 rfl (lv_room (Nat.le_of_ble_eq_true rfl)) nd_Ref_acts_18 ⟨Nat.zero_le _, Nat.zero_le _⟩) hS (fun q _ h => hFc q h) hFc (fun u t H1 locs ht hvm hw hB hz1 hk1 hS => ?_)
      obtain ⟨hP1, hK1, hD1⟩ := hB
      rw [ht] at hP1
      obtain ⟨rfq_85, rfl⟩ : ∃ z, z = u := ⟨_, rfl⟩
      obtain ⟨w_86, hR_87⟩ := hw
      try rw [← w_86] at hM
      have hP := hP1
      have hD := cr_Dw hD1 hFc
      generalize H1 = H at hP hS ⊢
      refine lv_aload_n hx hb nd_Ref_acts_21 rfl (lv_at hl 0 rfl) ?_
      refine lv_iload_n hx hb nd_Ref_acts_22 rfl (lv_at hl 1 rfl) ?_
      have hPc := hP
      have hDc := hD
      have hFc := va_free (wc := cw_Ref cI cZ cJ arf rfq_85 lat ln) hD hS hA [0, 1, 2, 3, 4, 5, 6, 7, 8, 9, 10, 11, 12, 13, 14, 15, 16, 17] rfl
      refine va_calli (va_runV (As := [.int x1]) (rest := []) ⟨hx, hb, hml, hown, hts⟩ (ct_Ref_runs l dC dI cI cZ cJ arf H.size rfq_85 lat ln x1 hR_87 (by omega)) (cwV 1 hts (ng_V tw_523 tw_525 tp_23 tw_6 tw_526) rfl rfl rfl (by decide +kernel) ⟨Nat.le_of_ble_eq_true rfl, Nat.le_of_ble_eq_true rfl⟩) ⟨fun a U g mk q => by obtain ⟨q0, q1, qP, qK, qD⟩ := q; exact ⟨q0, q1, qP, va_K.moved (u := U) (U := U.calling g mk a) (Vm.Alike.refl U.vm) qK, qD⟩, va_recv hK hPc (ci := 5) (q0 := 0) rfl rfl, fun U hU hW => ⟨rfl, by rw [hU], by rw [hU]; exact hPc, va_K.moved hW.alike hK, hDc.weaken (fun _ _ _ _ => trivial)⟩⟩ rfl rfl hl.1 rfl (lv_room (Nat.le_of_ble_eq_true rfl)) nd_Ref_acts_23 ⟨Nat.zero_le _, Nat.zero_le _⟩) hS (fun q _ h => hFc q h) hFc (fun r_88 u t H1 locs ht hvm hw hB hz1 hk1 hS => ?_)
      obtain ⟨hP1, hK1, hD1⟩ := hB
      rw [ht] at hP1
      have w_89 := hw
      try rw [← w_89] at hM
      have hP := hP1
      have hD := cr_Dw hD1 hFc
      generalize H1 = H at hP hS ⊢
      refine lv_if_eq (tgt := 33) hx hb nd_Ref_acts_26 (by decide) (fun c_90 => ?_) (fun c_90 => ?_)
      · have c_90t := cr_eq c_90
        rw [if_pos c_90] at hM
        refine lv_iconst (v := 0) hx hb nd_Ref_acts_33 (by decide) ?_
        exact W.iret (v := (0 : Int32)) hx hb hr (fun t ht hW => ⟨⟨(0 : Int32), rfq_85, rfl, ⟨by rw [hT, ← hM], by rw [hT, ← hM], hR_87⟩, by rw [ht]; exact hP, va_K.moved hW.alike hK, hD⟩, hS.F ht⟩) hS.2.2 nd_Ref_acts_34
      · have c_90t := cr_ne c_90
        rw [if_neg c_90] at hM
        refine lv_iconst (v := 1) hx hb nd_Ref_acts_29 (by decide) ?_
        refine lv_goto (tgt := 34) hx hb nd_Ref_acts_30 (by decide) ?_
        exact W.iret (v := (1 : Int32)) hx hb hr (fun t ht hW => ⟨⟨(1 : Int32), rfq_85, rfl, ⟨by rw [hT, ← hM], by rw [hT, ← hM], hR_87⟩, by rw [ht]; exact hP, va_K.moved hW.alike hK, hD⟩, hS.F ht⟩) hS.2.2 nd_Ref_acts_34
    · have c_83t := cr_ne c_83
      rw [if_neg c_83] at hM
      refine lv_bipush (v := -3) hx hb nd_Ref_acts_13 (by decide) ?_
      exact W.iret (v := (-3 : Int32)) hx hb hr (fun t ht hW => ⟨⟨(-3 : Int32), rf, rfl, ⟨by rw [hT, ← hM], by rw [hT, ← hM], hR_rf⟩, by rw [ht]; exact hP, va_K.moved hW.alike hK, hD⟩, hS.F ht⟩) hS.2.2 nd_Ref_acts_15

theorem nd_Ref_step_0 : decode prog_7_method_15_code 0 = .ok (.aload_n 0, 1) := by decide +kernel
theorem nd_Ref_step_1 : decode prog_7_method_15_code 1 = .ok (.iload_n 1, 1) := by decide +kernel
theorem nd_Ref_step_2 : decode prog_7_method_15_code 2 = .ok (.invokevirtual 70, 3) := by decide +kernel
theorem nd_Ref_step_5 : decode prog_7_method_15_code 5 = .ok (.ifCond .eq (21), 3) := by decide +kernel
theorem nd_Ref_step_8 : decode prog_7_method_15_code 8 = .ok (.iload_n 2, 1) := by decide +kernel
theorem nd_Ref_step_9 : decode prog_7_method_15_code 9 = .ok (.iconst 1, 1) := by decide +kernel
theorem nd_Ref_step_10 : decode prog_7_method_15_code 10 = .ok (.if_icmp .eq (8), 3) := by decide +kernel
theorem nd_Ref_step_13 : decode prog_7_method_15_code 13 = .ok (.iload_n 2, 1) := by decide +kernel
theorem nd_Ref_step_14 : decode prog_7_method_15_code 14 = .ok (.iconst 2, 1) := by decide +kernel
theorem nd_Ref_step_15 : decode prog_7_method_15_code 15 = .ok (.if_icmp .ne (13), 3) := by decide +kernel
theorem nd_Ref_step_18 : decode prog_7_method_15_code 18 = .ok (.aload_n 0, 1) := by decide +kernel
theorem nd_Ref_step_19 : decode prog_7_method_15_code 19 = .ok (.iload_n 3, 1) := by decide +kernel
theorem nd_Ref_step_20 : decode prog_7_method_15_code 20 = .ok (.invokevirtual 74, 3) := by decide +kernel
theorem nd_Ref_step_23 : decode prog_7_method_15_code 23 = .ok (.ifCond .ne (5), 3) := by decide +kernel
theorem nd_Ref_step_26 : decode prog_7_method_15_code 26 = .ok (.iconst (-1), 1) := by decide +kernel
theorem nd_Ref_step_27 : decode prog_7_method_15_code 27 = .ok (.ireturn, 1) := by decide +kernel
theorem nd_Ref_step_28 : decode prog_7_method_15_code 28 = .ok (.iload_n 2, 1) := by decide +kernel
theorem nd_Ref_step_29 : decode prog_7_method_15_code 29 = .ok (.ifCond .lt (34), 3) := by decide +kernel
theorem nd_Ref_step_32 : decode prog_7_method_15_code 32 = .ok (.iload_n 2, 1) := by decide +kernel
theorem nd_Ref_step_33 : decode prog_7_method_15_code 33 = .ok (.iconst 5, 1) := by decide +kernel
theorem nd_Ref_step_34 : decode prog_7_method_15_code 34 = .ok (.if_icmp .gt (29), 3) := by decide +kernel
theorem nd_Ref_step_37 : decode prog_7_method_15_code 37 = .ok (.lload 4, 2) := by decide +kernel
theorem nd_Ref_step_39 : decode prog_7_method_15_code 39 = .ok (.aload_n 0, 1) := by decide +kernel
theorem nd_Ref_step_40 : decode prog_7_method_15_code 40 = .ok (.getfield 102, 3) := by decide +kernel
theorem nd_Ref_step_43 : decode prog_7_method_15_code 43 = .ok (.lcmp, 1) := by decide +kernel
theorem nd_Ref_step_44 : decode prog_7_method_15_code 44 = .ok (.ifCond .lt (19), 3) := by decide +kernel
theorem nd_Ref_step_47 : decode prog_7_method_15_code 47 = .ok (.lload 4, 2) := by decide +kernel
theorem nd_Ref_step_49 : decode prog_7_method_15_code 49 = .ok (.lconst 0, 1) := by decide +kernel
theorem nd_Ref_step_50 : decode prog_7_method_15_code 50 = .ok (.lcmp, 1) := by decide +kernel
theorem nd_Ref_step_51 : decode prog_7_method_15_code 51 = .ok (.ifCond .lt (12), 3) := by decide +kernel
theorem nd_Ref_step_54 : decode prog_7_method_15_code 54 = .ok (.lload 4, 2) := by decide +kernel
theorem nd_Ref_step_56 : decode prog_7_method_15_code 56 = .ok (.ldc2_w 106, 3) := by decide +kernel
theorem nd_Ref_step_59 : decode prog_7_method_15_code 59 = .ok (.lcmp, 1) := by decide +kernel
theorem nd_Ref_step_60 : decode prog_7_method_15_code 60 = .ok (.ifCond .le (6), 3) := by decide +kernel
theorem nd_Ref_step_63 : decode prog_7_method_15_code 63 = .ok (.bipush (-2), 2) := by decide +kernel
theorem nd_Ref_step_65 : decode prog_7_method_15_code 65 = .ok (.ireturn, 1) := by decide +kernel
theorem nd_Ref_step_66 : decode prog_7_method_15_code 66 = .ok (.aload_n 0, 1) := by decide +kernel
theorem nd_Ref_step_67 : decode prog_7_method_15_code 67 = .ok (.iload_n 1, 1) := by decide +kernel
theorem nd_Ref_step_68 : decode prog_7_method_15_code 68 = .ok (.iload_n 2, 1) := by decide +kernel
theorem nd_Ref_step_69 : decode prog_7_method_15_code 69 = .ok (.iload_n 3, 1) := by decide +kernel
theorem nd_Ref_step_70 : decode prog_7_method_15_code 70 = .ok (.invokevirtual 108, 3) := by decide +kernel
theorem nd_Ref_step_73 : decode prog_7_method_15_code 73 = .ok (.istore 6, 2) := by decide +kernel
theorem nd_Ref_step_75 : decode prog_7_method_15_code 75 = .ok (.iload 6, 2) := by decide +kernel
theorem nd_Ref_step_77 : decode prog_7_method_15_code 77 = .ok (.ifCond .ge (10), 3) := by decide +kernel
theorem nd_Ref_step_80 : decode prog_7_method_15_code 80 = .ok (.iload 6, 2) := by decide +kernel
theorem nd_Ref_step_82 : decode prog_7_method_15_code 82 = .ok (.bipush (-14), 2) := by decide +kernel
theorem nd_Ref_step_84 : decode prog_7_method_15_code 84 = .ok (.if_icmp .ne (9), 3) := by decide +kernel
theorem nd_Ref_step_87 : decode prog_7_method_15_code 87 = .ok (.aload_n 0, 1) := by decide +kernel
theorem nd_Ref_step_88 : decode prog_7_method_15_code 88 = .ok (.lload 4, 2) := by decide +kernel
theorem nd_Ref_step_90 : decode prog_7_method_15_code 90 = .ok (.putfield 102, 3) := by decide +kernel
theorem nd_Ref_step_93 : decode prog_7_method_15_code 93 = .ok (.iload 6, 2) := by decide +kernel
theorem nd_Ref_step_95 : decode prog_7_method_15_code 95 = .ok (.ireturn, 1) := by decide +kernel
def md_Ref_step (rf : cr_S) (lat : Int64) (ln : (Nat → Int64)) (x1 : Int32) (x2 : Int32) (x3 : Int32) (x4 : Int64) : Int32 × cr_S × Int64 :=
  (if (md_Ref_isTask rf lat ln x1) = 0 then ((-1 : Int32), rf, lat) else (if x2 = (1 : Int32) then (if (md_Ref_isResource rf lat ln x3) = 0 then ((-1 : Int32), rf, lat) else (if x2 < 0 then ((-2 : Int32), rf, lat) else (if (5 : Int32) < x2 then ((-2 : Int32), rf, lat) else (if (lg_cmp x4 lat) < 0 then ((-2 : Int32), rf, lat) else (if (lg_cmp x4 (0 : Int64)) < 0 then ((-2 : Int32), rf, lat) else (if (lg_cmp x4 (1000000000 : Int64)) ≤ 0 then (if 0 ≤ ((md_Ref_acts rf lat ln x1 x2 x3).1) then (((md_Ref_acts rf lat ln x1 x2 x3).1), ((md_Ref_acts rf lat ln x1 x2 x3).2), x4) else (if ((md_Ref_acts rf lat ln x1 x2 x3).1) = (-14 : Int32) then (((md_Ref_acts rf lat ln x1 x2 x3).1), ((md_Ref_acts rf lat ln x1 x2 x3).2), x4) else (((md_Ref_acts rf lat ln x1 x2 x3).1), ((md_Ref_acts rf lat ln x1 x2 x3).2), lat))) else ((-2 : Int32), rf, lat))))))) else (if x2 = (2 : Int32) then (if (md_Ref_isResource rf lat ln x3) = 0 then ((-1 : Int32), rf, lat) else (if x2 < 0 then ((-2 : Int32), rf, lat) else (if (5 : Int32) < x2 then ((-2 : Int32), rf, lat) else (if (lg_cmp x4 lat) < 0 then ((-2 : Int32), rf, lat) else (if (lg_cmp x4 (0 : Int64)) < 0 then ((-2 : Int32), rf, lat) else (if (lg_cmp x4 (1000000000 : Int64)) ≤ 0 then (if 0 ≤ ((md_Ref_acts rf lat ln x1 x2 x3).1) then (((md_Ref_acts rf lat ln x1 x2 x3).1), ((md_Ref_acts rf lat ln x1 x2 x3).2), x4) else (if ((md_Ref_acts rf lat ln x1 x2 x3).1) = (-14 : Int32) then (((md_Ref_acts rf lat ln x1 x2 x3).1), ((md_Ref_acts rf lat ln x1 x2 x3).2), x4) else (((md_Ref_acts rf lat ln x1 x2 x3).1), ((md_Ref_acts rf lat ln x1 x2 x3).2), lat))) else ((-2 : Int32), rf, lat))))))) else (if x2 < 0 then ((-2 : Int32), rf, lat) else (if (5 : Int32) < x2 then ((-2 : Int32), rf, lat) else (if (lg_cmp x4 lat) < 0 then ((-2 : Int32), rf, lat) else (if (lg_cmp x4 (0 : Int64)) < 0 then ((-2 : Int32), rf, lat) else (if (lg_cmp x4 (1000000000 : Int64)) ≤ 0 then (if 0 ≤ ((md_Ref_acts rf lat ln x1 x2 x3).1) then (((md_Ref_acts rf lat ln x1 x2 x3).1), ((md_Ref_acts rf lat ln x1 x2 x3).2), x4) else (if ((md_Ref_acts rf lat ln x1 x2 x3).1) = (-14 : Int32) then (((md_Ref_acts rf lat ln x1 x2 x3).1), ((md_Ref_acts rf lat ln x1 x2 x3).2), x4) else (((md_Ref_acts rf lat ln x1 x2 x3).1), ((md_Ref_acts rf lat ln x1 x2 x3).2), lat))) else ((-2 : Int32), rf, lat)))))))))
abbrev pq_Ref_step (dC : Nat → ClassId) (dI : Nat → Nat → Nat) (cI cZ cJ : ClassId) (arf : Nat → Nat) (rf : cr_S) (lat : Int64) (ln : (Nat → Int64)) (x1 : Int32) (x2 : Int32) (x3 : Int32) (x4 : Int64) (A : Nat → Prop) : Array Value → State → Outcome → State → Prop :=
  va_Qi (fun (r : Int32) (u : cr_S × Int64) => r = (md_Ref_step rf lat ln x1 x2 x3 x4).1 ∧ u.1 = (md_Ref_step rf lat ln x1 x2 x3 x4).2.1 ∧ u.2 = (md_Ref_step rf lat ln x1 x2 x3 x4).2.2 ∧ cr_RRef u.1) (fun (u : cr_S × Int64) t => va_P (dC, dI) vwCl (cw_Ref cI cZ cJ arf u.1 u.2 ln) t.heap ∧ va_K (dC, dI) vwCl [(cI, .int), (cZ, .boolean), (cJ, .long)] t ∧ va_D A (cw_Ref cI cZ cJ arf u.1 u.2 ln)) A
set_option maxHeartbeats 4000000 in
set_option maxRecDepth 100000 in
theorem ct_Ref_step (l : Launch) (dC : Nat → ClassId) (dI : Nat → Nat → Nat) (cI cZ cJ : ClassId) (arf : Nat → Nat) (sz : Nat) (rf : cr_S) (lat : Int64) (ln : (Nat → Int64)) (x1 : Int32) (x2 : Int32) (x3 : Int32) (x4 : Int64) (hR_rf : cr_RRef rf) : Met l ny_Ref_step nw_Ref_step ({ frames := 5, cells := 0, slots := 0, locals := 116 } : Room) (va_Pc [.ref (arf 0), .int x1, .int x2, .int x3, .long x4] (fun U => U.heap.size = sz ∧ va_P (dC, dI) vwCl (cw_Ref cI cZ cJ arf rf lat ln) U.heap ∧ va_K (dC, dI) vwCl [(cI, .int), (cZ, .boolean), (cJ, .long)] U ∧ va_D (fun _ => True) (cw_Ref cI cZ cJ arf rf lat ln))) (pq_Ref_step dC dI cI cZ cJ arf rf lat ln x1 x2 x3 x4 (va_A (cw_Ref cI cZ cJ arf rf lat ln) sz)) 0 0 (va_A (cw_Ref cI cZ cJ arf rf lat ln) sz) := by
  refine Met.ofW (cc := prog_7_method_15_code) (maxL := 7) (ret := (some .int)) (by decide) rfl ?_
  intro p e s m args below meth c s₁ B hml hv
  obtain ⟨rfl, hsz, hP, hK, hD0⟩ := hv
  have hx := B.exec
  have hb := B.bytes
  have hr := B.returns
  have hts0 := atoms_spec (ws := nw_Ref_step) B.pre
  have hts : ∀ w ∈ ng_tbl, w.before ([.ref (arf 0), .int x1, .int x2, .int x3, .long x4] : List Value).toArray s = true := fun w h => hts0 w (List.mem_cons_of_mem _ h)
  have hown : s.vm.findClass "CeilingRowsModel" = some m.cls := findClass_of_methodNamed B.named
  have hlocks := B.notSynchronized
  subst hsz
  have hD := hD0.self (sz := s.heap.size)
  generalize hAe : va_A (cw_Ref cI cZ cJ arf rf lat ln) s.heap.size = A at hD ⊢
  have hA : ∀ q : Nat, s.heap.size ≤ q → A q := fun q h => by rw [← hAe]; exact Or.inr h
  have hS : va_S A s.heap s.heap [] := va_S.rf
  have hP : va_P (dC, dI) vwCl (cw_Ref cI cZ cJ arf rf lat ln) s.heap := hP
  have hl := lv_entry ([.ref (arf 0), .int x1, .int x2, .int x3, .long x4]) (n := 7) (Nat.le_of_ble_eq_true rfl)
  rw [lg_entry_eq]
  generalize (lg_sl ([.ref (arf 0), .int x1, .int x2, .int x3, .long x4]) ++ List.replicate (7 - (lg_sl ([.ref (arf 0), .int x1, .int x2, .int x3, .long x4])).length) Slot.unset).toArray = ls at hl ⊢
  have hl : lv_has ls 7 [(0, .ref (arf 0)), (1, .int x1), (2, .int x2), (3, .int x3), (4, .long x4)] := hl
  have f0_rf_0 := cr_rfo hR_rf.1
  have f0_rf_1 := cr_rfo hR_rf.2.1
  have k_m14 : (-14 : Int32).toInt = -14 := by decide
  have k_m2 : (-2 : Int32).toInt = -2 := by decide
  have k_m1 : (-1 : Int32).toInt = -1 := by decide
  have k_0 : (0 : Int32).toInt = 0 := by decide
  have k_1 : (1 : Int32).toInt = 1 := by decide
  have k_2 : (2 : Int32).toInt = 2 := by decide
  have k_5 : (5 : Int32).toInt = 5 := by decide
  obtain ⟨tgt, hT⟩ : ∃ z, md_Ref_step rf lat ln x1 x2 x3 x4 = z := ⟨_, rfl⟩
  have hM := hT
  unfold md_Ref_step at hM
  refine lv_aload_n hx hb nd_Ref_step_0 rfl (lv_at hl 0 rfl) ?_
  refine lv_iload_n hx hb nd_Ref_step_1 rfl (lv_at hl 1 rfl) ?_
  have hPc := hP
  have hDc := hD
  have hFc := va_free (wc := cw_Ref cI cZ cJ arf rf lat ln) hD hS hA [0, 1, 2, 3, 4, 5, 6, 7, 8, 9, 10, 11, 12, 13, 14, 15, 16, 17] rfl
  refine va_calli (va_runV (As := [.int x1]) (rest := []) ⟨hx, hb, hml, hown, hts⟩ (ct_Ref_isTask l dC dI cI cZ cJ arf s.heap.size rf lat ln x1 hR_rf) (cwV 1 hts (ng_V tw_493 tw_495 tp_18 tw_6 tw_496) rfl rfl rfl (by decide +kernel) ⟨Nat.le_of_ble_eq_true rfl, Nat.le_of_ble_eq_true rfl⟩) ⟨fun a U g mk q => by obtain ⟨q0, q1, qP, qK, qD⟩ := q; exact ⟨q0, q1, qP, va_K.moved (u := U) (U := U.calling g mk a) (Vm.Alike.refl U.vm) qK, qD⟩, va_recv hK hPc (ci := 5) (q0 := 0) rfl rfl, fun U hU hW => ⟨rfl, by rw [hU], by rw [hU]; exact hPc, va_K.moved hW.alike hK, hDc.weaken (fun _ _ _ _ => trivial)⟩⟩ rfl rfl hl.1 rfl (lv_room (Nat.le_of_ble_eq_true rfl)) nd_Ref_step_2 ⟨Nat.zero_le _, Nat.zero_le _⟩) hS (fun q _ h => hFc q h) hFc (fun r_1 u t H1 locs ht hvm hw hB hz1 hk1 hS => ?_)
  obtain ⟨hP1, hK1, hD1⟩ := hB
  rw [ht] at hP1
  obtain ⟨w_2, f_3⟩ := hw
  try rw [← w_2] at hM
  have hP := hP1
  have hD := cr_Dw hD1 hFc
  generalize H1 = H at hP hS ⊢
  refine lv_if_eq (tgt := 26) hx hb nd_Ref_step_5 (by decide) (fun c_4 => ?_) (fun c_4 => ?_)
  · have c_4t := cr_eq c_4
    rw [if_pos c_4] at hM
    refine lv_iconst (v := -1) hx hb nd_Ref_step_26 (by decide) ?_
    exact W.iret (v := (-1 : Int32)) hx hb hr (fun t ht hW => ⟨⟨(-1 : Int32), (rf, lat), rfl, ⟨by rw [hT, ← hM], by rw [hT, ← hM], by rw [hT, ← hM], hR_rf⟩, by rw [ht]; exact hP, va_K.moved hW.alike hK, hD⟩, hS.F ht⟩) hS.2.2 nd_Ref_step_27
  · have c_4t := cr_ne c_4
    rw [if_neg c_4] at hM
    refine lv_iload_n hx hb nd_Ref_step_8 rfl (lv_at hl 2 rfl) ?_
    refine lv_iconst (v := 1) hx hb nd_Ref_step_9 (by decide) ?_
    refine lv_icmp_eq (tgt := 18) hx hb nd_Ref_step_10 (by decide) (fun c_5 => ?_) (fun c_5 => ?_)
    · have c_5t := cr_eq c_5
      rw [if_pos c_5] at hM
      refine lv_aload_n hx hb nd_Ref_step_18 rfl (lv_at hl 0 rfl) ?_
      refine lv_iload_n hx hb nd_Ref_step_19 rfl (lv_at hl 3 rfl) ?_
      have hPc := hP
      have hDc := hD
      have hFc := va_free (wc := cw_Ref cI cZ cJ arf rf lat ln) hD hS hA [0, 1, 2, 3, 4, 5, 6, 7, 8, 9, 10, 11, 12, 13, 14, 15, 16, 17] rfl
      refine va_calli (va_runV (As := [.int x3]) (rest := []) ⟨hx, hb, hml, hown, hts⟩ (ct_Ref_isResource l dC dI cI cZ cJ arf H.size rf lat ln x3 hR_rf) (cwV 1 hts (ng_V tw_497 tw_499 tp_19 tw_6 tw_500) rfl rfl rfl (by decide +kernel) ⟨Nat.le_of_ble_eq_true rfl, Nat.le_of_ble_eq_true rfl⟩) ⟨fun a U g mk q => by obtain ⟨q0, q1, qP, qK, qD⟩ := q; exact ⟨q0, q1, qP, va_K.moved (u := U) (U := U.calling g mk a) (Vm.Alike.refl U.vm) qK, qD⟩, va_recv hK hPc (ci := 5) (q0 := 0) rfl rfl, fun U hU hW => ⟨rfl, by rw [hU], by rw [hU]; exact hPc, va_K.moved hW.alike hK, hDc.weaken (fun _ _ _ _ => trivial)⟩⟩ rfl rfl hl.1 rfl (lv_room (Nat.le_of_ble_eq_true rfl)) nd_Ref_step_20 ⟨Nat.zero_le _, Nat.zero_le _⟩) hS (fun q _ h => hFc q h) hFc (fun r_6 u t H1 locs ht hvm hw hB hz1 hk1 hS => ?_)
      obtain ⟨hP1, hK1, hD1⟩ := hB
      rw [ht] at hP1
      obtain ⟨w_7, f_8⟩ := hw
      try rw [← w_7] at hM
      have hP := hP1
      have hD := cr_Dw hD1 hFc
      generalize H1 = H at hP hS ⊢
      refine lv_if_ne (tgt := 28) hx hb nd_Ref_step_23 (by decide) (fun c_9 => ?_) (fun c_9 => ?_)
      · have c_9t := cr_ne c_9
        rw [if_neg c_9] at hM
        refine lv_iload_n hx hb nd_Ref_step_28 rfl (lv_at hl 2 rfl) ?_
        refine lv_if_lt (tgt := 63) hx hb nd_Ref_step_29 (by decide) (fun c_10 => ?_) (fun c_10 => ?_)
        · have c_10t := cr_lt c_10
          rw [if_pos c_10] at hM
          refine lv_bipush (v := -2) hx hb nd_Ref_step_63 (by decide) ?_
          exact W.iret (v := (-2 : Int32)) hx hb hr (fun t ht hW => ⟨⟨(-2 : Int32), (rf, lat), rfl, ⟨by rw [hT, ← hM], by rw [hT, ← hM], by rw [hT, ← hM], hR_rf⟩, by rw [ht]; exact hP, va_K.moved hW.alike hK, hD⟩, hS.F ht⟩) hS.2.2 nd_Ref_step_65
        · have c_10t := cr_nlt c_10
          rw [if_neg c_10] at hM
          refine lv_iload_n hx hb nd_Ref_step_32 rfl (lv_at hl 2 rfl) ?_
          refine lv_iconst (v := 5) hx hb nd_Ref_step_33 (by decide) ?_
          refine lv_icmp_gt (tgt := 63) hx hb nd_Ref_step_34 (by decide) (fun c_11 => ?_) (fun c_11 => ?_)
          · have c_11t := cr_lt c_11
            rw [if_pos c_11] at hM
            refine lv_bipush (v := -2) hx hb nd_Ref_step_63 (by decide) ?_
            exact W.iret (v := (-2 : Int32)) hx hb hr (fun t ht hW => ⟨⟨(-2 : Int32), (rf, lat), rfl, ⟨by rw [hT, ← hM], by rw [hT, ← hM], by rw [hT, ← hM], hR_rf⟩, by rw [ht]; exact hP, va_K.moved hW.alike hK, hD⟩, hS.F ht⟩) hS.2.2 nd_Ref_step_65
          · have c_11t := cr_nlt c_11
            rw [if_neg c_11] at hM
            refine lv_lload hx hb nd_Ref_step_37 (lv_at hl 4 rfl) ?_
            refine lv_aload_n hx hb nd_Ref_step_39 rfl (lv_at hl 0 rfl) ?_
            refine va_get (D := (dC, dI)) (ci := 5) (v := .long lat) (C := "CeilingRowsModel") (T := nf_Ref) (N := 22) hx hb hts nin_Ref hown hK hP 0 rfl rfl 11 (by decide) (hts _ tw_424) (fun _ h9 => h9) rfl nd_Ref_step_40 ?_
            refine W.lcmp hx hb nd_Ref_step_43 ?_
            refine lv_if_lt (tgt := 63) hx hb nd_Ref_step_44 (by decide) (fun c_12 => ?_) (fun c_12 => ?_)
            · have c_12t := cr_lt c_12
              rw [if_pos c_12] at hM
              refine lv_bipush (v := -2) hx hb nd_Ref_step_63 (by decide) ?_
              exact W.iret (v := (-2 : Int32)) hx hb hr (fun t ht hW => ⟨⟨(-2 : Int32), (rf, lat), rfl, ⟨by rw [hT, ← hM], by rw [hT, ← hM], by rw [hT, ← hM], hR_rf⟩, by rw [ht]; exact hP, va_K.moved hW.alike hK, hD⟩, hS.F ht⟩) hS.2.2 nd_Ref_step_65
            · have c_12t := cr_nlt c_12
              rw [if_neg c_12] at hM
              refine lv_lload hx hb nd_Ref_step_47 (lv_at hl 4 rfl) ?_
              refine lv_lconst (v := 0) hx hb nd_Ref_step_49 (by decide) ?_
              refine W.lcmp hx hb nd_Ref_step_50 ?_
              refine lv_if_lt (tgt := 63) hx hb nd_Ref_step_51 (by decide) (fun c_13 => ?_) (fun c_13 => ?_)
              · have c_13t := cr_lt c_13
                rw [if_pos c_13] at hM
                refine lv_bipush (v := -2) hx hb nd_Ref_step_63 (by decide) ?_
                exact W.iret (v := (-2 : Int32)) hx hb hr (fun t ht hW => ⟨⟨(-2 : Int32), (rf, lat), rfl, ⟨by rw [hT, ← hM], by rw [hT, ← hM], by rw [hT, ← hM], hR_rf⟩, by rw [ht]; exact hP, va_K.moved hW.alike hK, hD⟩, hS.F ht⟩) hS.2.2 nd_Ref_step_65
              · have c_13t := cr_nlt c_13
                rw [if_neg c_13] at hM
                refine lv_lload hx hb nd_Ref_step_54 (lv_at hl 4 rfl) ?_
                refine lv_ldc2 (v := 1000000000) hx hb hown (hts _ tw_514) nd_Ref_step_56 ?_
                refine W.lcmp hx hb nd_Ref_step_59 ?_
                refine lv_if_le (tgt := 66) hx hb nd_Ref_step_60 (by decide) (fun c_14 => ?_) (fun c_14 => ?_)
                · have c_14t := cr_le c_14
                  rw [if_pos c_14] at hM
                  refine lv_aload_n hx hb nd_Ref_step_66 rfl (lv_at hl 0 rfl) ?_
                  refine lv_iload_n hx hb nd_Ref_step_67 rfl (lv_at hl 1 rfl) ?_
                  refine lv_iload_n hx hb nd_Ref_step_68 rfl (lv_at hl 2 rfl) ?_
                  refine lv_iload_n hx hb nd_Ref_step_69 rfl (lv_at hl 3 rfl) ?_
                  have hPc := hP
                  have hDc := hD
                  have hFc := va_free (wc := cw_Ref cI cZ cJ arf rf lat ln) hD hS hA [0, 1, 2, 3, 4, 5, 6, 7, 8, 9, 10, 11, 12, 13, 14, 15, 16, 17] rfl
                  refine va_calli (va_runV (As := [.int x1, .int x2, .int x3]) (rest := []) ⟨hx, hb, hml, hown, hts⟩ (ct_Ref_acts l dC dI cI cZ cJ arf H.size rf lat ln x1 x2 x3 hR_rf (by omega) (by omega)) (cwV 3 hts (ng_V tw_515 tw_517 tp_21 tw_6 tw_518) rfl rfl rfl (by decide +kernel) ⟨Nat.le_of_ble_eq_true rfl, Nat.le_of_ble_eq_true rfl⟩) ⟨fun a U g mk q => by obtain ⟨q0, q1, qP, qK, qD⟩ := q; exact ⟨q0, q1, qP, va_K.moved (u := U) (U := U.calling g mk a) (Vm.Alike.refl U.vm) qK, qD⟩, va_recv hK hPc (ci := 5) (q0 := 0) rfl rfl, fun U hU hW => ⟨rfl, by rw [hU], by rw [hU]; exact hPc, va_K.moved hW.alike hK, hDc.weaken (fun _ _ _ _ => trivial)⟩⟩ rfl rfl hl.1 rfl (lv_room (Nat.le_of_ble_eq_true rfl)) nd_Ref_step_70 ⟨Nat.zero_le _, Nat.zero_le _⟩) hS (fun q _ h => hFc q h) hFc (fun r_15 u t H1 locs ht hvm hw hB hz1 hk1 hS => ?_)
                  obtain ⟨hP1, hK1, hD1⟩ := hB
                  rw [ht] at hP1
                  obtain ⟨rfq_17, rfl⟩ : ∃ z, z = u := ⟨_, rfl⟩
                  obtain ⟨w_16, w_18, hR_19⟩ := hw
                  try rw [← w_16] at hM
                  try rw [← w_18] at hM
                  have hP := hP1
                  have hD := cr_Dw hD1 hFc
                  generalize H1 = H at hP hS ⊢
                  refine lv_istore (lv' := [(6, .int r_15), (0, .ref (arf 0)), (1, .int x1), (2, .int x2), (3, .int x3), (4, .long x4)]) hx hb nd_Ref_step_73 hl (by decide) rfl (fun ls hl => ?_)
                  refine lv_iload hx hb nd_Ref_step_75 (lv_at hl 0 rfl) ?_
                  refine lv_if_ge (tgt := 87) hx hb nd_Ref_step_77 (by decide) (fun c_20 => ?_) (fun c_20 => ?_)
                  · have c_20t := cr_le c_20
                    rw [if_pos c_20] at hM
                    refine lv_aload_n hx hb nd_Ref_step_87 rfl (lv_at hl 1 rfl) ?_
                    refine lv_lload hx hb nd_Ref_step_88 (lv_at hl 5 rfl) ?_
                    refine va_put (D := (dC, dI)) (ci := 5) (v := .long x4) (ty := .long) (C := "CeilingRowsModel") (T := nf_Ref) (N := 22) hx hb hts nin_Ref nt_Ref nto_Ref nno_Ref hown hK hP hD hS 0 rfl rfl 11 (by decide) (hts _ tw_424) (fun _ h9 => h9) rfl (by decide +kernel) rfl rfl (Nat.le_of_ble_eq_true rfl) nd_Ref_step_90 (fun H locs hP hD hS => ?_)
                    have hP : va_P (dC, dI) vwCl (cw_Ref cI cZ cJ arf rfq_17 x4 ln) H := hP
                    have hD : va_D A (cw_Ref cI cZ cJ arf rfq_17 x4 ln) := hD
                    have hR_21 : cr_RRef rfq_17 := ⟨cr_rf_up hR_19.1 (fun _ e => absurd e (by decide)), cr_rf_up hR_19.2.1 (fun _ e => absurd e (by decide)), cr_rg_up hR_19.2.2.1 (fun e => absurd e (by decide)), cr_rg_up hR_19.2.2.2.1 (fun e => absurd e (by decide)), cr_rg_up hR_19.2.2.2.2.1 (fun e => absurd e (by decide)), cr_rh_up hR_19.2.2.2.2.2 (fun e => absurd e (by decide))⟩
                    refine lv_iload hx hb nd_Ref_step_93 (lv_at hl 0 rfl) ?_
                    exact W.iret (v := r_15) hx hb hr (fun t ht hW => ⟨⟨r_15, (rfq_17, x4), rfl, ⟨by rw [hT, ← hM], by rw [hT, ← hM], by rw [hT, ← hM], hR_21⟩, by rw [ht]; exact hP, va_K.moved hW.alike hK, hD⟩, hS.F ht⟩) hS.2.2 nd_Ref_step_95
                  · have c_20t := cr_nle c_20
                    rw [if_neg c_20] at hM
                    refine lv_iload hx hb nd_Ref_step_80 (lv_at hl 0 rfl) ?_
                    refine lv_bipush (v := -14) hx hb nd_Ref_step_82 (by decide) ?_
                    refine lv_icmp_ne (tgt := 93) hx hb nd_Ref_step_84 (by decide) (fun c_22 => ?_) (fun c_22 => ?_)
                    · have c_22t := cr_ne c_22
                      rw [if_neg c_22] at hM
                      refine lv_iload hx hb nd_Ref_step_93 (lv_at hl 0 rfl) ?_
                      exact W.iret (v := r_15) hx hb hr (fun t ht hW => ⟨⟨r_15, (rfq_17, lat), rfl, ⟨by rw [hT, ← hM], by rw [hT, ← hM], by rw [hT, ← hM], hR_19⟩, by rw [ht]; exact hP, va_K.moved hW.alike hK, hD⟩, hS.F ht⟩) hS.2.2 nd_Ref_step_95
                    · have c_22t := cr_eq c_22
                      rw [if_pos c_22] at hM
                      refine lv_aload_n hx hb nd_Ref_step_87 rfl (lv_at hl 1 rfl) ?_
                      refine lv_lload hx hb nd_Ref_step_88 (lv_at hl 5 rfl) ?_
                      refine va_put (D := (dC, dI)) (ci := 5) (v := .long x4) (ty := .long) (C := "CeilingRowsModel") (T := nf_Ref) (N := 22) hx hb hts nin_Ref nt_Ref nto_Ref nno_Ref hown hK hP hD hS 0 rfl rfl 11 (by decide) (hts _ tw_424) (fun _ h9 => h9) rfl (by decide +kernel) rfl rfl (Nat.le_of_ble_eq_true rfl) nd_Ref_step_90 (fun H locs hP hD hS => ?_)
                      have hP : va_P (dC, dI) vwCl (cw_Ref cI cZ cJ arf rfq_17 x4 ln) H := hP
                      have hD : va_D A (cw_Ref cI cZ cJ arf rfq_17 x4 ln) := hD
                      have hR_23 : cr_RRef rfq_17 := ⟨cr_rf_up hR_19.1 (fun _ e => absurd e (by decide)), cr_rf_up hR_19.2.1 (fun _ e => absurd e (by decide)), cr_rg_up hR_19.2.2.1 (fun e => absurd e (by decide)), cr_rg_up hR_19.2.2.2.1 (fun e => absurd e (by decide)), cr_rg_up hR_19.2.2.2.2.1 (fun e => absurd e (by decide)), cr_rh_up hR_19.2.2.2.2.2 (fun e => absurd e (by decide))⟩
                      refine lv_iload hx hb nd_Ref_step_93 (lv_at hl 0 rfl) ?_
                      exact W.iret (v := r_15) hx hb hr (fun t ht hW => ⟨⟨r_15, (rfq_17, x4), rfl, ⟨by rw [hT, ← hM], by rw [hT, ← hM], by rw [hT, ← hM], hR_23⟩, by rw [ht]; exact hP, va_K.moved hW.alike hK, hD⟩, hS.F ht⟩) hS.2.2 nd_Ref_step_95
                · have c_14t := cr_nle c_14
                  rw [if_neg c_14] at hM
                  refine lv_bipush (v := -2) hx hb nd_Ref_step_63 (by decide) ?_
                  exact W.iret (v := (-2 : Int32)) hx hb hr (fun t ht hW => ⟨⟨(-2 : Int32), (rf, lat), rfl, ⟨by rw [hT, ← hM], by rw [hT, ← hM], by rw [hT, ← hM], hR_rf⟩, by rw [ht]; exact hP, va_K.moved hW.alike hK, hD⟩, hS.F ht⟩) hS.2.2 nd_Ref_step_65
      · have c_9t := cr_eq c_9
        rw [if_pos c_9] at hM
        refine lv_iconst (v := -1) hx hb nd_Ref_step_26 (by decide) ?_
        exact W.iret (v := (-1 : Int32)) hx hb hr (fun t ht hW => ⟨⟨(-1 : Int32), (rf, lat), rfl, ⟨by rw [hT, ← hM], by rw [hT, ← hM], by rw [hT, ← hM], hR_rf⟩, by rw [ht]; exact hP, va_K.moved hW.alike hK, hD⟩, hS.F ht⟩) hS.2.2 nd_Ref_step_27
    · have c_5t := cr_ne c_5
      rw [if_neg c_5] at hM
      refine lv_iload_n hx hb nd_Ref_step_13 rfl (lv_at hl 2 rfl) ?_
      refine lv_iconst (v := 2) hx hb nd_Ref_step_14 (by decide) ?_
      refine lv_icmp_ne (tgt := 28) hx hb nd_Ref_step_15 (by decide) (fun c_24 => ?_) (fun c_24 => ?_)
      · have c_24t := cr_ne c_24
        rw [if_neg c_24] at hM
        refine lv_iload_n hx hb nd_Ref_step_28 rfl (lv_at hl 2 rfl) ?_
        refine lv_if_lt (tgt := 63) hx hb nd_Ref_step_29 (by decide) (fun c_25 => ?_) (fun c_25 => ?_)
        · have c_25t := cr_lt c_25
          rw [if_pos c_25] at hM
          refine lv_bipush (v := -2) hx hb nd_Ref_step_63 (by decide) ?_
          exact W.iret (v := (-2 : Int32)) hx hb hr (fun t ht hW => ⟨⟨(-2 : Int32), (rf, lat), rfl, ⟨by rw [hT, ← hM], by rw [hT, ← hM], by rw [hT, ← hM], hR_rf⟩, by rw [ht]; exact hP, va_K.moved hW.alike hK, hD⟩, hS.F ht⟩) hS.2.2 nd_Ref_step_65
        · have c_25t := cr_nlt c_25
          rw [if_neg c_25] at hM
          refine lv_iload_n hx hb nd_Ref_step_32 rfl (lv_at hl 2 rfl) ?_
          refine lv_iconst (v := 5) hx hb nd_Ref_step_33 (by decide) ?_
          refine lv_icmp_gt (tgt := 63) hx hb nd_Ref_step_34 (by decide) (fun c_26 => ?_) (fun c_26 => ?_)
          · have c_26t := cr_lt c_26
            rw [if_pos c_26] at hM
            refine lv_bipush (v := -2) hx hb nd_Ref_step_63 (by decide) ?_
            exact W.iret (v := (-2 : Int32)) hx hb hr (fun t ht hW => ⟨⟨(-2 : Int32), (rf, lat), rfl, ⟨by rw [hT, ← hM], by rw [hT, ← hM], by rw [hT, ← hM], hR_rf⟩, by rw [ht]; exact hP, va_K.moved hW.alike hK, hD⟩, hS.F ht⟩) hS.2.2 nd_Ref_step_65
          · have c_26t := cr_nlt c_26
            rw [if_neg c_26] at hM
            refine lv_lload hx hb nd_Ref_step_37 (lv_at hl 4 rfl) ?_
            refine lv_aload_n hx hb nd_Ref_step_39 rfl (lv_at hl 0 rfl) ?_
            refine va_get (D := (dC, dI)) (ci := 5) (v := .long lat) (C := "CeilingRowsModel") (T := nf_Ref) (N := 22) hx hb hts nin_Ref hown hK hP 0 rfl rfl 11 (by decide) (hts _ tw_424) (fun _ h9 => h9) rfl nd_Ref_step_40 ?_
            refine W.lcmp hx hb nd_Ref_step_43 ?_
            refine lv_if_lt (tgt := 63) hx hb nd_Ref_step_44 (by decide) (fun c_27 => ?_) (fun c_27 => ?_)
            · have c_27t := cr_lt c_27
              rw [if_pos c_27] at hM
              refine lv_bipush (v := -2) hx hb nd_Ref_step_63 (by decide) ?_
              exact W.iret (v := (-2 : Int32)) hx hb hr (fun t ht hW => ⟨⟨(-2 : Int32), (rf, lat), rfl, ⟨by rw [hT, ← hM], by rw [hT, ← hM], by rw [hT, ← hM], hR_rf⟩, by rw [ht]; exact hP, va_K.moved hW.alike hK, hD⟩, hS.F ht⟩) hS.2.2 nd_Ref_step_65
            · have c_27t := cr_nlt c_27
              rw [if_neg c_27] at hM
              refine lv_lload hx hb nd_Ref_step_47 (lv_at hl 4 rfl) ?_
              refine lv_lconst (v := 0) hx hb nd_Ref_step_49 (by decide) ?_
              refine W.lcmp hx hb nd_Ref_step_50 ?_
              refine lv_if_lt (tgt := 63) hx hb nd_Ref_step_51 (by decide) (fun c_28 => ?_) (fun c_28 => ?_)
              · have c_28t := cr_lt c_28
                rw [if_pos c_28] at hM
                refine lv_bipush (v := -2) hx hb nd_Ref_step_63 (by decide) ?_
                exact W.iret (v := (-2 : Int32)) hx hb hr (fun t ht hW => ⟨⟨(-2 : Int32), (rf, lat), rfl, ⟨by rw [hT, ← hM], by rw [hT, ← hM], by rw [hT, ← hM], hR_rf⟩, by rw [ht]; exact hP, va_K.moved hW.alike hK, hD⟩, hS.F ht⟩) hS.2.2 nd_Ref_step_65
              · have c_28t := cr_nlt c_28
                rw [if_neg c_28] at hM
                refine lv_lload hx hb nd_Ref_step_54 (lv_at hl 4 rfl) ?_
                refine lv_ldc2 (v := 1000000000) hx hb hown (hts _ tw_514) nd_Ref_step_56 ?_
                refine W.lcmp hx hb nd_Ref_step_59 ?_
                refine lv_if_le (tgt := 66) hx hb nd_Ref_step_60 (by decide) (fun c_29 => ?_) (fun c_29 => ?_)
                · have c_29t := cr_le c_29
                  rw [if_pos c_29] at hM
                  refine lv_aload_n hx hb nd_Ref_step_66 rfl (lv_at hl 0 rfl) ?_
                  refine lv_iload_n hx hb nd_Ref_step_67 rfl (lv_at hl 1 rfl) ?_
                  refine lv_iload_n hx hb nd_Ref_step_68 rfl (lv_at hl 2 rfl) ?_
                  refine lv_iload_n hx hb nd_Ref_step_69 rfl (lv_at hl 3 rfl) ?_
                  have hPc := hP
                  have hDc := hD
                  have hFc := va_free (wc := cw_Ref cI cZ cJ arf rf lat ln) hD hS hA [0, 1, 2, 3, 4, 5, 6, 7, 8, 9, 10, 11, 12, 13, 14, 15, 16, 17] rfl
                  refine va_calli (va_runV (As := [.int x1, .int x2, .int x3]) (rest := []) ⟨hx, hb, hml, hown, hts⟩ (ct_Ref_acts l dC dI cI cZ cJ arf H.size rf lat ln x1 x2 x3 hR_rf (by omega) (by omega)) (cwV 3 hts (ng_V tw_515 tw_517 tp_21 tw_6 tw_518) rfl rfl rfl (by decide +kernel) ⟨Nat.le_of_ble_eq_true rfl, Nat.le_of_ble_eq_true rfl⟩) ⟨fun a U g mk q => by obtain ⟨q0, q1, qP, qK, qD⟩ := q; exact ⟨q0, q1, qP, va_K.moved (u := U) (U := U.calling g mk a) (Vm.Alike.refl U.vm) qK, qD⟩, va_recv hK hPc (ci := 5) (q0 := 0) rfl rfl, fun U hU hW => ⟨rfl, by rw [hU], by rw [hU]; exact hPc, va_K.moved hW.alike hK, hDc.weaken (fun _ _ _ _ => trivial)⟩⟩ rfl rfl hl.1 rfl (lv_room (Nat.le_of_ble_eq_true rfl)) nd_Ref_step_70 ⟨Nat.zero_le _, Nat.zero_le _⟩) hS (fun q _ h => hFc q h) hFc (fun r_30 u t H1 locs ht hvm hw hB hz1 hk1 hS => ?_)
                  obtain ⟨hP1, hK1, hD1⟩ := hB
                  rw [ht] at hP1
                  obtain ⟨rfq_32, rfl⟩ : ∃ z, z = u := ⟨_, rfl⟩
                  obtain ⟨w_31, w_33, hR_34⟩ := hw
                  try rw [← w_31] at hM
                  try rw [← w_33] at hM
                  have hP := hP1
                  have hD := cr_Dw hD1 hFc
                  generalize H1 = H at hP hS ⊢
                  refine lv_istore (lv' := [(6, .int r_30), (0, .ref (arf 0)), (1, .int x1), (2, .int x2), (3, .int x3), (4, .long x4)]) hx hb nd_Ref_step_73 hl (by decide) rfl (fun ls hl => ?_)
                  refine lv_iload hx hb nd_Ref_step_75 (lv_at hl 0 rfl) ?_
                  refine lv_if_ge (tgt := 87) hx hb nd_Ref_step_77 (by decide) (fun c_35 => ?_) (fun c_35 => ?_)
                  · have c_35t := cr_le c_35
                    rw [if_pos c_35] at hM
                    refine lv_aload_n hx hb nd_Ref_step_87 rfl (lv_at hl 1 rfl) ?_
                    refine lv_lload hx hb nd_Ref_step_88 (lv_at hl 5 rfl) ?_
                    refine va_put (D := (dC, dI)) (ci := 5) (v := .long x4) (ty := .long) (C := "CeilingRowsModel") (T := nf_Ref) (N := 22) hx hb hts nin_Ref nt_Ref nto_Ref nno_Ref hown hK hP hD hS 0 rfl rfl 11 (by decide) (hts _ tw_424) (fun _ h9 => h9) rfl (by decide +kernel) rfl rfl (Nat.le_of_ble_eq_true rfl) nd_Ref_step_90 (fun H locs hP hD hS => ?_)
                    have hP : va_P (dC, dI) vwCl (cw_Ref cI cZ cJ arf rfq_32 x4 ln) H := hP
                    have hD : va_D A (cw_Ref cI cZ cJ arf rfq_32 x4 ln) := hD
                    have hR_36 : cr_RRef rfq_32 := ⟨cr_rf_up hR_34.1 (fun _ e => absurd e (by decide)), cr_rf_up hR_34.2.1 (fun _ e => absurd e (by decide)), cr_rg_up hR_34.2.2.1 (fun e => absurd e (by decide)), cr_rg_up hR_34.2.2.2.1 (fun e => absurd e (by decide)), cr_rg_up hR_34.2.2.2.2.1 (fun e => absurd e (by decide)), cr_rh_up hR_34.2.2.2.2.2 (fun e => absurd e (by decide))⟩
                    refine lv_iload hx hb nd_Ref_step_93 (lv_at hl 0 rfl) ?_
                    exact W.iret (v := r_30) hx hb hr (fun t ht hW => ⟨⟨r_30, (rfq_32, x4), rfl, ⟨by rw [hT, ← hM], by rw [hT, ← hM], by rw [hT, ← hM], hR_36⟩, by rw [ht]; exact hP, va_K.moved hW.alike hK, hD⟩, hS.F ht⟩) hS.2.2 nd_Ref_step_95
                  · have c_35t := cr_nle c_35
                    rw [if_neg c_35] at hM
                    refine lv_iload hx hb nd_Ref_step_80 (lv_at hl 0 rfl) ?_
                    refine lv_bipush (v := -14) hx hb nd_Ref_step_82 (by decide) ?_
                    refine lv_icmp_ne (tgt := 93) hx hb nd_Ref_step_84 (by decide) (fun c_37 => ?_) (fun c_37 => ?_)
                    · have c_37t := cr_ne c_37
                      rw [if_neg c_37] at hM
                      refine lv_iload hx hb nd_Ref_step_93 (lv_at hl 0 rfl) ?_
                      exact W.iret (v := r_30) hx hb hr (fun t ht hW => ⟨⟨r_30, (rfq_32, lat), rfl, ⟨by rw [hT, ← hM], by rw [hT, ← hM], by rw [hT, ← hM], hR_34⟩, by rw [ht]; exact hP, va_K.moved hW.alike hK, hD⟩, hS.F ht⟩) hS.2.2 nd_Ref_step_95
                    · have c_37t := cr_eq c_37
                      rw [if_pos c_37] at hM
                      refine lv_aload_n hx hb nd_Ref_step_87 rfl (lv_at hl 1 rfl) ?_
                      refine lv_lload hx hb nd_Ref_step_88 (lv_at hl 5 rfl) ?_
                      refine va_put (D := (dC, dI)) (ci := 5) (v := .long x4) (ty := .long) (C := "CeilingRowsModel") (T := nf_Ref) (N := 22) hx hb hts nin_Ref nt_Ref nto_Ref nno_Ref hown hK hP hD hS 0 rfl rfl 11 (by decide) (hts _ tw_424) (fun _ h9 => h9) rfl (by decide +kernel) rfl rfl (Nat.le_of_ble_eq_true rfl) nd_Ref_step_90 (fun H locs hP hD hS => ?_)
                      have hP : va_P (dC, dI) vwCl (cw_Ref cI cZ cJ arf rfq_32 x4 ln) H := hP
                      have hD : va_D A (cw_Ref cI cZ cJ arf rfq_32 x4 ln) := hD
                      have hR_38 : cr_RRef rfq_32 := ⟨cr_rf_up hR_34.1 (fun _ e => absurd e (by decide)), cr_rf_up hR_34.2.1 (fun _ e => absurd e (by decide)), cr_rg_up hR_34.2.2.1 (fun e => absurd e (by decide)), cr_rg_up hR_34.2.2.2.1 (fun e => absurd e (by decide)), cr_rg_up hR_34.2.2.2.2.1 (fun e => absurd e (by decide)), cr_rh_up hR_34.2.2.2.2.2 (fun e => absurd e (by decide))⟩
                      refine lv_iload hx hb nd_Ref_step_93 (lv_at hl 0 rfl) ?_
                      exact W.iret (v := r_30) hx hb hr (fun t ht hW => ⟨⟨r_30, (rfq_32, x4), rfl, ⟨by rw [hT, ← hM], by rw [hT, ← hM], by rw [hT, ← hM], hR_38⟩, by rw [ht]; exact hP, va_K.moved hW.alike hK, hD⟩, hS.F ht⟩) hS.2.2 nd_Ref_step_95
                · have c_29t := cr_nle c_29
                  rw [if_neg c_29] at hM
                  refine lv_bipush (v := -2) hx hb nd_Ref_step_63 (by decide) ?_
                  exact W.iret (v := (-2 : Int32)) hx hb hr (fun t ht hW => ⟨⟨(-2 : Int32), (rf, lat), rfl, ⟨by rw [hT, ← hM], by rw [hT, ← hM], by rw [hT, ← hM], hR_rf⟩, by rw [ht]; exact hP, va_K.moved hW.alike hK, hD⟩, hS.F ht⟩) hS.2.2 nd_Ref_step_65
      · have c_24t := cr_eq c_24
        rw [if_pos c_24] at hM
        refine lv_aload_n hx hb nd_Ref_step_18 rfl (lv_at hl 0 rfl) ?_
        refine lv_iload_n hx hb nd_Ref_step_19 rfl (lv_at hl 3 rfl) ?_
        have hPc := hP
        have hDc := hD
        have hFc := va_free (wc := cw_Ref cI cZ cJ arf rf lat ln) hD hS hA [0, 1, 2, 3, 4, 5, 6, 7, 8, 9, 10, 11, 12, 13, 14, 15, 16, 17] rfl
        refine va_calli (va_runV (As := [.int x3]) (rest := []) ⟨hx, hb, hml, hown, hts⟩ (ct_Ref_isResource l dC dI cI cZ cJ arf H.size rf lat ln x3 hR_rf) (cwV 1 hts (ng_V tw_497 tw_499 tp_19 tw_6 tw_500) rfl rfl rfl (by decide +kernel) ⟨Nat.le_of_ble_eq_true rfl, Nat.le_of_ble_eq_true rfl⟩) ⟨fun a U g mk q => by obtain ⟨q0, q1, qP, qK, qD⟩ := q; exact ⟨q0, q1, qP, va_K.moved (u := U) (U := U.calling g mk a) (Vm.Alike.refl U.vm) qK, qD⟩, va_recv hK hPc (ci := 5) (q0 := 0) rfl rfl, fun U hU hW => ⟨rfl, by rw [hU], by rw [hU]; exact hPc, va_K.moved hW.alike hK, hDc.weaken (fun _ _ _ _ => trivial)⟩⟩ rfl rfl hl.1 rfl (lv_room (Nat.le_of_ble_eq_true rfl)) nd_Ref_step_20 ⟨Nat.zero_le _, Nat.zero_le _⟩) hS (fun q _ h => hFc q h) hFc (fun r_39 u t H1 locs ht hvm hw hB hz1 hk1 hS => ?_)
        obtain ⟨hP1, hK1, hD1⟩ := hB
        rw [ht] at hP1
        obtain ⟨w_40, f_41⟩ := hw
        try rw [← w_40] at hM
        have hP := hP1
        have hD := cr_Dw hD1 hFc
        generalize H1 = H at hP hS ⊢
        refine lv_if_ne (tgt := 28) hx hb nd_Ref_step_23 (by decide) (fun c_42 => ?_) (fun c_42 => ?_)
        · have c_42t := cr_ne c_42
          rw [if_neg c_42] at hM
          refine lv_iload_n hx hb nd_Ref_step_28 rfl (lv_at hl 2 rfl) ?_
          refine lv_if_lt (tgt := 63) hx hb nd_Ref_step_29 (by decide) (fun c_43 => ?_) (fun c_43 => ?_)
          · have c_43t := cr_lt c_43
            rw [if_pos c_43] at hM
            refine lv_bipush (v := -2) hx hb nd_Ref_step_63 (by decide) ?_
            exact W.iret (v := (-2 : Int32)) hx hb hr (fun t ht hW => ⟨⟨(-2 : Int32), (rf, lat), rfl, ⟨by rw [hT, ← hM], by rw [hT, ← hM], by rw [hT, ← hM], hR_rf⟩, by rw [ht]; exact hP, va_K.moved hW.alike hK, hD⟩, hS.F ht⟩) hS.2.2 nd_Ref_step_65
          · have c_43t := cr_nlt c_43
            rw [if_neg c_43] at hM
            refine lv_iload_n hx hb nd_Ref_step_32 rfl (lv_at hl 2 rfl) ?_
            refine lv_iconst (v := 5) hx hb nd_Ref_step_33 (by decide) ?_
            refine lv_icmp_gt (tgt := 63) hx hb nd_Ref_step_34 (by decide) (fun c_44 => ?_) (fun c_44 => ?_)
            · have c_44t := cr_lt c_44
              rw [if_pos c_44] at hM
              refine lv_bipush (v := -2) hx hb nd_Ref_step_63 (by decide) ?_
              exact W.iret (v := (-2 : Int32)) hx hb hr (fun t ht hW => ⟨⟨(-2 : Int32), (rf, lat), rfl, ⟨by rw [hT, ← hM], by rw [hT, ← hM], by rw [hT, ← hM], hR_rf⟩, by rw [ht]; exact hP, va_K.moved hW.alike hK, hD⟩, hS.F ht⟩) hS.2.2 nd_Ref_step_65
            · have c_44t := cr_nlt c_44
              rw [if_neg c_44] at hM
              refine lv_lload hx hb nd_Ref_step_37 (lv_at hl 4 rfl) ?_
              refine lv_aload_n hx hb nd_Ref_step_39 rfl (lv_at hl 0 rfl) ?_
              refine va_get (D := (dC, dI)) (ci := 5) (v := .long lat) (C := "CeilingRowsModel") (T := nf_Ref) (N := 22) hx hb hts nin_Ref hown hK hP 0 rfl rfl 11 (by decide) (hts _ tw_424) (fun _ h9 => h9) rfl nd_Ref_step_40 ?_
              refine W.lcmp hx hb nd_Ref_step_43 ?_
              refine lv_if_lt (tgt := 63) hx hb nd_Ref_step_44 (by decide) (fun c_45 => ?_) (fun c_45 => ?_)
              · have c_45t := cr_lt c_45
                rw [if_pos c_45] at hM
                refine lv_bipush (v := -2) hx hb nd_Ref_step_63 (by decide) ?_
                exact W.iret (v := (-2 : Int32)) hx hb hr (fun t ht hW => ⟨⟨(-2 : Int32), (rf, lat), rfl, ⟨by rw [hT, ← hM], by rw [hT, ← hM], by rw [hT, ← hM], hR_rf⟩, by rw [ht]; exact hP, va_K.moved hW.alike hK, hD⟩, hS.F ht⟩) hS.2.2 nd_Ref_step_65
              · have c_45t := cr_nlt c_45
                rw [if_neg c_45] at hM
                refine lv_lload hx hb nd_Ref_step_47 (lv_at hl 4 rfl) ?_
                refine lv_lconst (v := 0) hx hb nd_Ref_step_49 (by decide) ?_
                refine W.lcmp hx hb nd_Ref_step_50 ?_
                refine lv_if_lt (tgt := 63) hx hb nd_Ref_step_51 (by decide) (fun c_46 => ?_) (fun c_46 => ?_)
                · have c_46t := cr_lt c_46
                  rw [if_pos c_46] at hM
                  refine lv_bipush (v := -2) hx hb nd_Ref_step_63 (by decide) ?_
                  exact W.iret (v := (-2 : Int32)) hx hb hr (fun t ht hW => ⟨⟨(-2 : Int32), (rf, lat), rfl, ⟨by rw [hT, ← hM], by rw [hT, ← hM], by rw [hT, ← hM], hR_rf⟩, by rw [ht]; exact hP, va_K.moved hW.alike hK, hD⟩, hS.F ht⟩) hS.2.2 nd_Ref_step_65
                · have c_46t := cr_nlt c_46
                  rw [if_neg c_46] at hM
                  refine lv_lload hx hb nd_Ref_step_54 (lv_at hl 4 rfl) ?_
                  refine lv_ldc2 (v := 1000000000) hx hb hown (hts _ tw_514) nd_Ref_step_56 ?_
                  refine W.lcmp hx hb nd_Ref_step_59 ?_
                  refine lv_if_le (tgt := 66) hx hb nd_Ref_step_60 (by decide) (fun c_47 => ?_) (fun c_47 => ?_)
                  · have c_47t := cr_le c_47
                    rw [if_pos c_47] at hM
                    refine lv_aload_n hx hb nd_Ref_step_66 rfl (lv_at hl 0 rfl) ?_
                    refine lv_iload_n hx hb nd_Ref_step_67 rfl (lv_at hl 1 rfl) ?_
                    refine lv_iload_n hx hb nd_Ref_step_68 rfl (lv_at hl 2 rfl) ?_
                    refine lv_iload_n hx hb nd_Ref_step_69 rfl (lv_at hl 3 rfl) ?_
                    have hPc := hP
                    have hDc := hD
                    have hFc := va_free (wc := cw_Ref cI cZ cJ arf rf lat ln) hD hS hA [0, 1, 2, 3, 4, 5, 6, 7, 8, 9, 10, 11, 12, 13, 14, 15, 16, 17] rfl
                    refine va_calli (va_runV (As := [.int x1, .int x2, .int x3]) (rest := []) ⟨hx, hb, hml, hown, hts⟩ (ct_Ref_acts l dC dI cI cZ cJ arf H.size rf lat ln x1 x2 x3 hR_rf (by omega) (by omega)) (cwV 3 hts (ng_V tw_515 tw_517 tp_21 tw_6 tw_518) rfl rfl rfl (by decide +kernel) ⟨Nat.le_of_ble_eq_true rfl, Nat.le_of_ble_eq_true rfl⟩) ⟨fun a U g mk q => by obtain ⟨q0, q1, qP, qK, qD⟩ := q; exact ⟨q0, q1, qP, va_K.moved (u := U) (U := U.calling g mk a) (Vm.Alike.refl U.vm) qK, qD⟩, va_recv hK hPc (ci := 5) (q0 := 0) rfl rfl, fun U hU hW => ⟨rfl, by rw [hU], by rw [hU]; exact hPc, va_K.moved hW.alike hK, hDc.weaken (fun _ _ _ _ => trivial)⟩⟩ rfl rfl hl.1 rfl (lv_room (Nat.le_of_ble_eq_true rfl)) nd_Ref_step_70 ⟨Nat.zero_le _, Nat.zero_le _⟩) hS (fun q _ h => hFc q h) hFc (fun r_48 u t H1 locs ht hvm hw hB hz1 hk1 hS => ?_)
                    obtain ⟨hP1, hK1, hD1⟩ := hB
                    rw [ht] at hP1
                    obtain ⟨rfq_50, rfl⟩ : ∃ z, z = u := ⟨_, rfl⟩
                    obtain ⟨w_49, w_51, hR_52⟩ := hw
                    try rw [← w_49] at hM
                    try rw [← w_51] at hM
                    have hP := hP1
                    have hD := cr_Dw hD1 hFc
                    generalize H1 = H at hP hS ⊢
                    refine lv_istore (lv' := [(6, .int r_48), (0, .ref (arf 0)), (1, .int x1), (2, .int x2), (3, .int x3), (4, .long x4)]) hx hb nd_Ref_step_73 hl (by decide) rfl (fun ls hl => ?_)
                    refine lv_iload hx hb nd_Ref_step_75 (lv_at hl 0 rfl) ?_
                    refine lv_if_ge (tgt := 87) hx hb nd_Ref_step_77 (by decide) (fun c_53 => ?_) (fun c_53 => ?_)
                    · have c_53t := cr_le c_53
                      rw [if_pos c_53] at hM
                      refine lv_aload_n hx hb nd_Ref_step_87 rfl (lv_at hl 1 rfl) ?_
                      refine lv_lload hx hb nd_Ref_step_88 (lv_at hl 5 rfl) ?_
                      refine va_put (D := (dC, dI)) (ci := 5) (v := .long x4) (ty := .long) (C := "CeilingRowsModel") (T := nf_Ref) (N := 22) hx hb hts nin_Ref nt_Ref nto_Ref nno_Ref hown hK hP hD hS 0 rfl rfl 11 (by decide) (hts _ tw_424) (fun _ h9 => h9) rfl (by decide +kernel) rfl rfl (Nat.le_of_ble_eq_true rfl) nd_Ref_step_90 (fun H locs hP hD hS => ?_)
                      have hP : va_P (dC, dI) vwCl (cw_Ref cI cZ cJ arf rfq_50 x4 ln) H := hP
                      have hD : va_D A (cw_Ref cI cZ cJ arf rfq_50 x4 ln) := hD
                      have hR_54 : cr_RRef rfq_50 := ⟨cr_rf_up hR_52.1 (fun _ e => absurd e (by decide)), cr_rf_up hR_52.2.1 (fun _ e => absurd e (by decide)), cr_rg_up hR_52.2.2.1 (fun e => absurd e (by decide)), cr_rg_up hR_52.2.2.2.1 (fun e => absurd e (by decide)), cr_rg_up hR_52.2.2.2.2.1 (fun e => absurd e (by decide)), cr_rh_up hR_52.2.2.2.2.2 (fun e => absurd e (by decide))⟩
                      refine lv_iload hx hb nd_Ref_step_93 (lv_at hl 0 rfl) ?_
                      exact W.iret (v := r_48) hx hb hr (fun t ht hW => ⟨⟨r_48, (rfq_50, x4), rfl, ⟨by rw [hT, ← hM], by rw [hT, ← hM], by rw [hT, ← hM], hR_54⟩, by rw [ht]; exact hP, va_K.moved hW.alike hK, hD⟩, hS.F ht⟩) hS.2.2 nd_Ref_step_95
                    · have c_53t := cr_nle c_53
                      rw [if_neg c_53] at hM
                      refine lv_iload hx hb nd_Ref_step_80 (lv_at hl 0 rfl) ?_
                      refine lv_bipush (v := -14) hx hb nd_Ref_step_82 (by decide) ?_
                      refine lv_icmp_ne (tgt := 93) hx hb nd_Ref_step_84 (by decide) (fun c_55 => ?_) (fun c_55 => ?_)
                      · have c_55t := cr_ne c_55
                        rw [if_neg c_55] at hM
                        refine lv_iload hx hb nd_Ref_step_93 (lv_at hl 0 rfl) ?_
                        exact W.iret (v := r_48) hx hb hr (fun t ht hW => ⟨⟨r_48, (rfq_50, lat), rfl, ⟨by rw [hT, ← hM], by rw [hT, ← hM], by rw [hT, ← hM], hR_52⟩, by rw [ht]; exact hP, va_K.moved hW.alike hK, hD⟩, hS.F ht⟩) hS.2.2 nd_Ref_step_95
                      · have c_55t := cr_eq c_55
                        rw [if_pos c_55] at hM
                        refine lv_aload_n hx hb nd_Ref_step_87 rfl (lv_at hl 1 rfl) ?_
                        refine lv_lload hx hb nd_Ref_step_88 (lv_at hl 5 rfl) ?_
                        refine va_put (D := (dC, dI)) (ci := 5) (v := .long x4) (ty := .long) (C := "CeilingRowsModel") (T := nf_Ref) (N := 22) hx hb hts nin_Ref nt_Ref nto_Ref nno_Ref hown hK hP hD hS 0 rfl rfl 11 (by decide) (hts _ tw_424) (fun _ h9 => h9) rfl (by decide +kernel) rfl rfl (Nat.le_of_ble_eq_true rfl) nd_Ref_step_90 (fun H locs hP hD hS => ?_)
                        have hP : va_P (dC, dI) vwCl (cw_Ref cI cZ cJ arf rfq_50 x4 ln) H := hP
                        have hD : va_D A (cw_Ref cI cZ cJ arf rfq_50 x4 ln) := hD
                        have hR_56 : cr_RRef rfq_50 := ⟨cr_rf_up hR_52.1 (fun _ e => absurd e (by decide)), cr_rf_up hR_52.2.1 (fun _ e => absurd e (by decide)), cr_rg_up hR_52.2.2.1 (fun e => absurd e (by decide)), cr_rg_up hR_52.2.2.2.1 (fun e => absurd e (by decide)), cr_rg_up hR_52.2.2.2.2.1 (fun e => absurd e (by decide)), cr_rh_up hR_52.2.2.2.2.2 (fun e => absurd e (by decide))⟩
                        refine lv_iload hx hb nd_Ref_step_93 (lv_at hl 0 rfl) ?_
                        exact W.iret (v := r_48) hx hb hr (fun t ht hW => ⟨⟨r_48, (rfq_50, x4), rfl, ⟨by rw [hT, ← hM], by rw [hT, ← hM], by rw [hT, ← hM], hR_56⟩, by rw [ht]; exact hP, va_K.moved hW.alike hK, hD⟩, hS.F ht⟩) hS.2.2 nd_Ref_step_95
                  · have c_47t := cr_nle c_47
                    rw [if_neg c_47] at hM
                    refine lv_bipush (v := -2) hx hb nd_Ref_step_63 (by decide) ?_
                    exact W.iret (v := (-2 : Int32)) hx hb hr (fun t ht hW => ⟨⟨(-2 : Int32), (rf, lat), rfl, ⟨by rw [hT, ← hM], by rw [hT, ← hM], by rw [hT, ← hM], hR_rf⟩, by rw [ht]; exact hP, va_K.moved hW.alike hK, hD⟩, hS.F ht⟩) hS.2.2 nd_Ref_step_65
        · have c_42t := cr_eq c_42
          rw [if_pos c_42] at hM
          refine lv_iconst (v := -1) hx hb nd_Ref_step_26 (by decide) ?_
          exact W.iret (v := (-1 : Int32)) hx hb hr (fun t ht hW => ⟨⟨(-1 : Int32), (rf, lat), rfl, ⟨by rw [hT, ← hM], by rw [hT, ← hM], by rw [hT, ← hM], hR_rf⟩, by rw [ht]; exact hP, va_K.moved hW.alike hK, hD⟩, hS.F ht⟩) hS.2.2 nd_Ref_step_27

theorem nd_Ref_rank_0 : decode prog_7_method_16_code 0 = .ok (.aload_n 0, 1) := by decide +kernel
theorem nd_Ref_rank_1 : decode prog_7_method_16_code 1 = .ok (.iload_n 1, 1) := by decide +kernel
theorem nd_Ref_rank_2 : decode prog_7_method_16_code 2 = .ok (.invokevirtual 70, 3) := by decide +kernel
theorem nd_Ref_rank_5 : decode prog_7_method_16_code 5 = .ok (.ifCond .eq (11), 3) := by decide +kernel
theorem nd_Ref_rank_8 : decode prog_7_method_16_code 8 = .ok (.aload_n 0, 1) := by decide +kernel
theorem nd_Ref_rank_9 : decode prog_7_method_16_code 9 = .ok (.iload_n 1, 1) := by decide +kernel
theorem nd_Ref_rank_10 : decode prog_7_method_16_code 10 = .ok (.invokevirtual 83, 3) := by decide +kernel
theorem nd_Ref_rank_13 : decode prog_7_method_16_code 13 = .ok (.goto (4), 3) := by decide +kernel
theorem nd_Ref_rank_16 : decode prog_7_method_16_code 16 = .ok (.iconst (-1), 1) := by decide +kernel
theorem nd_Ref_rank_17 : decode prog_7_method_16_code 17 = .ok (.ireturn, 1) := by decide +kernel
def md_Ref_rank (rf : cr_S) (lat : Int64) (ln : (Nat → Int64)) (x1 : Int32) : Int32 :=
  (if (md_Ref_isTask rf lat ln x1) = 0 then (-1 : Int32) else (md_Ref_rankNow rf lat ln x1))
abbrev pq_Ref_rank (dC : Nat → ClassId) (dI : Nat → Nat → Nat) (cI cZ cJ : ClassId) (arf : Nat → Nat) (rf : cr_S) (lat : Int64) (ln : (Nat → Int64)) (x1 : Int32) (A : Nat → Prop) : Array Value → State → Outcome → State → Prop :=
  va_Qi (fun (r : Int32) (_ : Unit) => r = md_Ref_rank rf lat ln x1) (fun (_ : Unit) t => va_P (dC, dI) vwCl (cw_Ref cI cZ cJ arf rf lat ln) t.heap ∧ va_K (dC, dI) vwCl [(cI, .int), (cZ, .boolean), (cJ, .long)] t ∧ va_D A (cw_Ref cI cZ cJ arf rf lat ln)) A
set_option maxHeartbeats 4000000 in
set_option maxRecDepth 100000 in
theorem ct_Ref_rank (l : Launch) (dC : Nat → ClassId) (dI : Nat → Nat → Nat) (cI cZ cJ : ClassId) (arf : Nat → Nat) (sz : Nat) (rf : cr_S) (lat : Int64) (ln : (Nat → Int64)) (x1 : Int32) (hR_rf : cr_RRef rf) : Met l ny_Ref_rank nw_Ref_rank ({ frames := 2, cells := 0, slots := 0, locals := 46 } : Room) (va_Pc [.ref (arf 0), .int x1] (fun U => U.heap.size = sz ∧ va_P (dC, dI) vwCl (cw_Ref cI cZ cJ arf rf lat ln) U.heap ∧ va_K (dC, dI) vwCl [(cI, .int), (cZ, .boolean), (cJ, .long)] U ∧ va_D (fun _ => True) (cw_Ref cI cZ cJ arf rf lat ln))) (pq_Ref_rank dC dI cI cZ cJ arf rf lat ln x1 (va_A (cw_Ref cI cZ cJ arf rf lat ln) sz)) 0 0 (va_A (cw_Ref cI cZ cJ arf rf lat ln) sz) := by
  refine Met.ofW (cc := prog_7_method_16_code) (maxL := 2) (ret := (some .int)) (by decide) rfl ?_
  intro p e s m args below meth c s₁ B hml hv
  obtain ⟨rfl, hsz, hP, hK, hD0⟩ := hv
  have hx := B.exec
  have hb := B.bytes
  have hr := B.returns
  have hts0 := atoms_spec (ws := nw_Ref_rank) B.pre
  have hts : ∀ w ∈ ng_tbl, w.before ([.ref (arf 0), .int x1] : List Value).toArray s = true := fun w h => hts0 w (List.mem_cons_of_mem _ h)
  have hown : s.vm.findClass "CeilingRowsModel" = some m.cls := findClass_of_methodNamed B.named
  have hlocks := B.notSynchronized
  subst hsz
  have hD := hD0.self (sz := s.heap.size)
  generalize hAe : va_A (cw_Ref cI cZ cJ arf rf lat ln) s.heap.size = A at hD ⊢
  have hA : ∀ q : Nat, s.heap.size ≤ q → A q := fun q h => by rw [← hAe]; exact Or.inr h
  have hS : va_S A s.heap s.heap [] := va_S.rf
  have hP : va_P (dC, dI) vwCl (cw_Ref cI cZ cJ arf rf lat ln) s.heap := hP
  have hl := lv_entry ([.ref (arf 0), .int x1]) (n := 2) (Nat.le_of_ble_eq_true rfl)
  rw [lg_entry_eq]
  generalize (lg_sl ([.ref (arf 0), .int x1]) ++ List.replicate (2 - (lg_sl ([.ref (arf 0), .int x1])).length) Slot.unset).toArray = ls at hl ⊢
  have hl : lv_has ls 2 [(0, .ref (arf 0)), (1, .int x1)] := hl
  have f0_rf_0 := cr_rfo hR_rf.1
  have f0_rf_1 := cr_rfo hR_rf.2.1
  have k_m1 : (-1 : Int32).toInt = -1 := by decide
  have k_0 : (0 : Int32).toInt = 0 := by decide
  obtain ⟨tgt, hT⟩ : ∃ z, md_Ref_rank rf lat ln x1 = z := ⟨_, rfl⟩
  have hM := hT
  unfold md_Ref_rank at hM
  refine lv_aload_n hx hb nd_Ref_rank_0 rfl (lv_at hl 0 rfl) ?_
  refine lv_iload_n hx hb nd_Ref_rank_1 rfl (lv_at hl 1 rfl) ?_
  have hPc := hP
  have hDc := hD
  have hFc := va_free (wc := cw_Ref cI cZ cJ arf rf lat ln) hD hS hA [0, 1, 2, 3, 4, 5, 6, 7, 8, 9, 10, 11, 12, 13, 14, 15, 16, 17] rfl
  refine va_calli (va_runV (As := [.int x1]) (rest := []) ⟨hx, hb, hml, hown, hts⟩ (ct_Ref_isTask l dC dI cI cZ cJ arf s.heap.size rf lat ln x1 hR_rf) (cwV 1 hts (ng_V tw_493 tw_495 tp_18 tw_6 tw_496) rfl rfl rfl (by decide +kernel) ⟨Nat.le_of_ble_eq_true rfl, Nat.le_of_ble_eq_true rfl⟩) ⟨fun a U g mk q => by obtain ⟨q0, q1, qP, qK, qD⟩ := q; exact ⟨q0, q1, qP, va_K.moved (u := U) (U := U.calling g mk a) (Vm.Alike.refl U.vm) qK, qD⟩, va_recv hK hPc (ci := 5) (q0 := 0) rfl rfl, fun U hU hW => ⟨rfl, by rw [hU], by rw [hU]; exact hPc, va_K.moved hW.alike hK, hDc.weaken (fun _ _ _ _ => trivial)⟩⟩ rfl rfl hl.1 rfl (lv_room (Nat.le_of_ble_eq_true rfl)) nd_Ref_rank_2 ⟨Nat.zero_le _, Nat.zero_le _⟩) hS (fun q _ h => hFc q h) hFc (fun r_1 u t H1 locs ht hvm hw hB hz1 hk1 hS => ?_)
  obtain ⟨hP1, hK1, hD1⟩ := hB
  rw [ht] at hP1
  obtain ⟨w_2, f_3⟩ := hw
  try rw [← w_2] at hM
  have hP := hP1
  have hD := cr_Dw hD1 hFc
  generalize H1 = H at hP hS ⊢
  refine lv_if_eq (tgt := 16) hx hb nd_Ref_rank_5 (by decide) (fun c_4 => ?_) (fun c_4 => ?_)
  · have c_4t := cr_eq c_4
    rw [if_pos c_4] at hM
    refine lv_iconst (v := -1) hx hb nd_Ref_rank_16 (by decide) ?_
    exact W.iret (v := (-1 : Int32)) hx hb hr (fun t ht hW => ⟨⟨(-1 : Int32), (), rfl, by rw [hT, ← hM], by rw [ht]; exact hP, va_K.moved hW.alike hK, hD⟩, hS.F ht⟩) hS.2.2 nd_Ref_rank_17
  · have c_4t := cr_ne c_4
    rw [if_neg c_4] at hM
    refine lv_aload_n hx hb nd_Ref_rank_8 rfl (lv_at hl 0 rfl) ?_
    refine lv_iload_n hx hb nd_Ref_rank_9 rfl (lv_at hl 1 rfl) ?_
    have hPc := hP
    have hDc := hD
    have hFc := va_free (wc := cw_Ref cI cZ cJ arf rf lat ln) hD hS hA [0, 1, 2, 3, 4, 5, 6, 7, 8, 9, 10, 11, 12, 13, 14, 15, 16, 17] rfl
    refine va_calli (va_runV (As := [.int x1]) (rest := []) ⟨hx, hb, hml, hown, hts⟩ (ct_Ref_rankNow l dC dI cI cZ cJ arf H.size rf lat ln x1 hR_rf (by omega)) (cwV 1 hts (ng_V tw_531 tw_533 tp_25 tw_6 tw_534) rfl rfl rfl (by decide +kernel) ⟨Nat.le_of_ble_eq_true rfl, Nat.le_of_ble_eq_true rfl⟩) ⟨fun a U g mk q => by obtain ⟨q0, q1, qP, qK, qD⟩ := q; exact ⟨q0, q1, qP, va_K.moved (u := U) (U := U.calling g mk a) (Vm.Alike.refl U.vm) qK, qD⟩, va_recv hK hPc (ci := 5) (q0 := 0) rfl rfl, fun U hU hW => ⟨rfl, by rw [hU], by rw [hU]; exact hPc, va_K.moved hW.alike hK, hDc.weaken (fun _ _ _ _ => trivial)⟩⟩ rfl rfl hl.1 rfl (lv_room (Nat.le_of_ble_eq_true rfl)) nd_Ref_rank_10 ⟨Nat.zero_le _, Nat.zero_le _⟩) hS (fun q _ h => hFc q h) hFc (fun r_5 u t H1 locs ht hvm hw hB hz1 hk1 hS => ?_)
    obtain ⟨hP1, hK1, hD1⟩ := hB
    rw [ht] at hP1
    have w_6 := hw
    try rw [← w_6] at hM
    have hP := hP1
    have hD := cr_Dw hD1 hFc
    generalize H1 = H at hP hS ⊢
    refine lv_goto (tgt := 17) hx hb nd_Ref_rank_13 (by decide) ?_
    exact W.iret (v := r_5) hx hb hr (fun t ht hW => ⟨⟨r_5, (), rfl, by rw [hT, ← hM], by rw [ht]; exact hP, va_K.moved hW.alike hK, hD⟩, hS.F ht⟩) hS.2.2 nd_Ref_rank_17

theorem nd_Ref_holder_0 : decode prog_7_method_17_code 0 = .ok (.aload_n 0, 1) := by decide +kernel
theorem nd_Ref_holder_1 : decode prog_7_method_17_code 1 = .ok (.iload_n 1, 1) := by decide +kernel
theorem nd_Ref_holder_2 : decode prog_7_method_17_code 2 = .ok (.invokevirtual 74, 3) := by decide +kernel
theorem nd_Ref_holder_5 : decode prog_7_method_17_code 5 = .ok (.ifCond .eq (12), 3) := by decide +kernel
theorem nd_Ref_holder_8 : decode prog_7_method_17_code 8 = .ok (.aload_n 0, 1) := by decide +kernel
theorem nd_Ref_holder_9 : decode prog_7_method_17_code 9 = .ok (.getfield 30, 3) := by decide +kernel
theorem nd_Ref_holder_12 : decode prog_7_method_17_code 12 = .ok (.iload_n 1, 1) := by decide +kernel
theorem nd_Ref_holder_13 : decode prog_7_method_17_code 13 = .ok (.iaload, 1) := by decide +kernel
theorem nd_Ref_holder_14 : decode prog_7_method_17_code 14 = .ok (.goto (4), 3) := by decide +kernel
theorem nd_Ref_holder_17 : decode prog_7_method_17_code 17 = .ok (.iconst (-1), 1) := by decide +kernel
theorem nd_Ref_holder_18 : decode prog_7_method_17_code 18 = .ok (.ireturn, 1) := by decide +kernel
def md_Ref_holder (rf : cr_S) (lat : Int64) (ln : (Nat → Int64)) (x1 : Int32) : Int32 :=
  (if (md_Ref_isResource rf lat ln x1) = 0 then (-1 : Int32) else (rf 7 x1.toNatClampNeg))
abbrev pq_Ref_holder (dC : Nat → ClassId) (dI : Nat → Nat → Nat) (cI cZ cJ : ClassId) (arf : Nat → Nat) (rf : cr_S) (lat : Int64) (ln : (Nat → Int64)) (x1 : Int32) (A : Nat → Prop) : Array Value → State → Outcome → State → Prop :=
  va_Qi (fun (r : Int32) (_ : Unit) => r = md_Ref_holder rf lat ln x1) (fun (_ : Unit) t => va_P (dC, dI) vwCl (cw_Ref cI cZ cJ arf rf lat ln) t.heap ∧ va_K (dC, dI) vwCl [(cI, .int), (cZ, .boolean), (cJ, .long)] t ∧ va_D A (cw_Ref cI cZ cJ arf rf lat ln)) A
set_option maxHeartbeats 4000000 in
set_option maxRecDepth 100000 in
theorem ct_Ref_holder (l : Launch) (dC : Nat → ClassId) (dI : Nat → Nat → Nat) (cI cZ cJ : ClassId) (arf : Nat → Nat) (sz : Nat) (rf : cr_S) (lat : Int64) (ln : (Nat → Int64)) (x1 : Int32) (hR_rf : cr_RRef rf) : Met l ny_Ref_holder nw_Ref_holder ({ frames := 1, cells := 0, slots := 0, locals := 21 } : Room) (va_Pc [.ref (arf 0), .int x1] (fun U => U.heap.size = sz ∧ va_P (dC, dI) vwCl (cw_Ref cI cZ cJ arf rf lat ln) U.heap ∧ va_K (dC, dI) vwCl [(cI, .int), (cZ, .boolean), (cJ, .long)] U ∧ va_D (fun _ => True) (cw_Ref cI cZ cJ arf rf lat ln))) (pq_Ref_holder dC dI cI cZ cJ arf rf lat ln x1 (va_A (cw_Ref cI cZ cJ arf rf lat ln) sz)) 0 0 (va_A (cw_Ref cI cZ cJ arf rf lat ln) sz) := by
  refine Met.ofW (cc := prog_7_method_17_code) (maxL := 2) (ret := (some .int)) (by decide) rfl ?_
  intro p e s m args below meth c s₁ B hml hv
  obtain ⟨rfl, hsz, hP, hK, hD0⟩ := hv
  have hx := B.exec
  have hb := B.bytes
  have hr := B.returns
  have hts0 := atoms_spec (ws := nw_Ref_holder) B.pre
  have hts : ∀ w ∈ ng_tbl, w.before ([.ref (arf 0), .int x1] : List Value).toArray s = true := fun w h => hts0 w (List.mem_cons_of_mem _ h)
  have hown : s.vm.findClass "CeilingRowsModel" = some m.cls := findClass_of_methodNamed B.named
  have hlocks := B.notSynchronized
  subst hsz
  have hD := hD0.self (sz := s.heap.size)
  generalize hAe : va_A (cw_Ref cI cZ cJ arf rf lat ln) s.heap.size = A at hD ⊢
  have hA : ∀ q : Nat, s.heap.size ≤ q → A q := fun q h => by rw [← hAe]; exact Or.inr h
  have hS : va_S A s.heap s.heap [] := va_S.rf
  have hP : va_P (dC, dI) vwCl (cw_Ref cI cZ cJ arf rf lat ln) s.heap := hP
  have hl := lv_entry ([.ref (arf 0), .int x1]) (n := 2) (Nat.le_of_ble_eq_true rfl)
  rw [lg_entry_eq]
  generalize (lg_sl ([.ref (arf 0), .int x1]) ++ List.replicate (2 - (lg_sl ([.ref (arf 0), .int x1])).length) Slot.unset).toArray = ls at hl ⊢
  have hl : lv_has ls 2 [(0, .ref (arf 0)), (1, .int x1)] := hl
  have f0_rf_0 := cr_rfo hR_rf.1
  have f0_rf_1 := cr_rfo hR_rf.2.1
  have k_m1 : (-1 : Int32).toInt = -1 := by decide
  have k_0 : (0 : Int32).toInt = 0 := by decide
  obtain ⟨tgt, hT⟩ : ∃ z, md_Ref_holder rf lat ln x1 = z := ⟨_, rfl⟩
  have hM := hT
  unfold md_Ref_holder at hM
  refine lv_aload_n hx hb nd_Ref_holder_0 rfl (lv_at hl 0 rfl) ?_
  refine lv_iload_n hx hb nd_Ref_holder_1 rfl (lv_at hl 1 rfl) ?_
  have hPc := hP
  have hDc := hD
  have hFc := va_free (wc := cw_Ref cI cZ cJ arf rf lat ln) hD hS hA [0, 1, 2, 3, 4, 5, 6, 7, 8, 9, 10, 11, 12, 13, 14, 15, 16, 17] rfl
  refine va_calli (va_runV (As := [.int x1]) (rest := []) ⟨hx, hb, hml, hown, hts⟩ (ct_Ref_isResource l dC dI cI cZ cJ arf s.heap.size rf lat ln x1 hR_rf) (cwV 1 hts (ng_V tw_497 tw_499 tp_19 tw_6 tw_500) rfl rfl rfl (by decide +kernel) ⟨Nat.le_of_ble_eq_true rfl, Nat.le_of_ble_eq_true rfl⟩) ⟨fun a U g mk q => by obtain ⟨q0, q1, qP, qK, qD⟩ := q; exact ⟨q0, q1, qP, va_K.moved (u := U) (U := U.calling g mk a) (Vm.Alike.refl U.vm) qK, qD⟩, va_recv hK hPc (ci := 5) (q0 := 0) rfl rfl, fun U hU hW => ⟨rfl, by rw [hU], by rw [hU]; exact hPc, va_K.moved hW.alike hK, hDc.weaken (fun _ _ _ _ => trivial)⟩⟩ rfl rfl hl.1 rfl (lv_room (Nat.le_of_ble_eq_true rfl)) nd_Ref_holder_2 ⟨Nat.zero_le _, Nat.zero_le _⟩) hS (fun q _ h => hFc q h) hFc (fun r_1 u t H1 locs ht hvm hw hB hz1 hk1 hS => ?_)
  obtain ⟨hP1, hK1, hD1⟩ := hB
  rw [ht] at hP1
  obtain ⟨w_2, f_3⟩ := hw
  try rw [← w_2] at hM
  have hP := hP1
  have hD := cr_Dw hD1 hFc
  generalize H1 = H at hP hS ⊢
  refine lv_if_eq (tgt := 17) hx hb nd_Ref_holder_5 (by decide) (fun c_4 => ?_) (fun c_4 => ?_)
  · have c_4t := cr_eq c_4
    rw [if_pos c_4] at hM
    refine lv_iconst (v := -1) hx hb nd_Ref_holder_17 (by decide) ?_
    exact W.iret (v := (-1 : Int32)) hx hb hr (fun t ht hW => ⟨⟨(-1 : Int32), (), rfl, by rw [hT, ← hM], by rw [ht]; exact hP, va_K.moved hW.alike hK, hD⟩, hS.F ht⟩) hS.2.2 nd_Ref_holder_18
  · have c_4t := cr_ne c_4
    rw [if_neg c_4] at hM
    refine lv_aload_n hx hb nd_Ref_holder_8 rfl (lv_at hl 0 rfl) ?_
    refine va_get (D := (dC, dI)) (ci := 5) (v := .ref (arf 7)) (C := "CeilingRowsModel") (T := nf_Ref) (N := 22) hx hb hts nin_Ref hown hK hP 0 rfl rfl 9 (by decide) (hts _ tw_422) (fun _ h9 => h9) rfl nd_Ref_holder_9 ?_
    refine lv_iload_n hx hb nd_Ref_holder_12 rfl (lv_at hl 1 rfl) ?_
    have b_5 : vp_in x1 9 := vp_in_iff.mpr (by omega)
    refine va_iald hx hb hK hP 7 0 rfl rfl b_5 nd_Ref_holder_13 ?_
    refine lv_goto (tgt := 18) hx hb nd_Ref_holder_14 (by decide) ?_
    exact W.iret (v := (rf 7 x1.toNatClampNeg)) hx hb hr (fun t ht hW => ⟨⟨(rf 7 x1.toNatClampNeg), (), rfl, by rw [hT, ← hM], by rw [ht]; exact hP, va_K.moved hW.alike hK, hD⟩, hS.F ht⟩) hS.2.2 nd_Ref_holder_18

theorem nd_Ref_mayKeep_0 : decode prog_7_method_18_code 0 = .ok (.aload_n 0, 1) := by decide +kernel
theorem nd_Ref_mayKeep_1 : decode prog_7_method_18_code 1 = .ok (.getfield 13, 3) := by decide +kernel
theorem nd_Ref_mayKeep_4 : decode prog_7_method_18_code 4 = .ok (.iload_n 1, 1) := by decide +kernel
theorem nd_Ref_mayKeep_5 : decode prog_7_method_18_code 5 = .ok (.iaload, 1) := by decide +kernel
theorem nd_Ref_mayKeep_6 : decode prog_7_method_18_code 6 = .ok (.aload_n 0, 1) := by decide +kernel
theorem nd_Ref_mayKeep_7 : decode prog_7_method_18_code 7 = .ok (.getfield 13, 3) := by decide +kernel
theorem nd_Ref_mayKeep_10 : decode prog_7_method_18_code 10 = .ok (.iload_n 2, 1) := by decide +kernel
theorem nd_Ref_mayKeep_11 : decode prog_7_method_18_code 11 = .ok (.iaload, 1) := by decide +kernel
theorem nd_Ref_mayKeep_12 : decode prog_7_method_18_code 12 = .ok (.if_icmp .ne (52), 3) := by decide +kernel
theorem nd_Ref_mayKeep_15 : decode prog_7_method_18_code 15 = .ok (.aload_n 0, 1) := by decide +kernel
theorem nd_Ref_mayKeep_16 : decode prog_7_method_18_code 16 = .ok (.getfield 7, 3) := by decide +kernel
theorem nd_Ref_mayKeep_19 : decode prog_7_method_18_code 19 = .ok (.iload_n 1, 1) := by decide +kernel
theorem nd_Ref_mayKeep_20 : decode prog_7_method_18_code 20 = .ok (.iaload, 1) := by decide +kernel
theorem nd_Ref_mayKeep_21 : decode prog_7_method_18_code 21 = .ok (.aload_n 0, 1) := by decide +kernel
theorem nd_Ref_mayKeep_22 : decode prog_7_method_18_code 22 = .ok (.getfield 7, 3) := by decide +kernel
theorem nd_Ref_mayKeep_25 : decode prog_7_method_18_code 25 = .ok (.iload_n 2, 1) := by decide +kernel
theorem nd_Ref_mayKeep_26 : decode prog_7_method_18_code 26 = .ok (.iaload, 1) := by decide +kernel
theorem nd_Ref_mayKeep_27 : decode prog_7_method_18_code 27 = .ok (.if_icmp .ge (37), 3) := by decide +kernel
theorem nd_Ref_mayKeep_30 : decode prog_7_method_18_code 30 = .ok (.aload_n 0, 1) := by decide +kernel
theorem nd_Ref_mayKeep_31 : decode prog_7_method_18_code 31 = .ok (.getfield 26, 3) := by decide +kernel
theorem nd_Ref_mayKeep_34 : decode prog_7_method_18_code 34 = .ok (.bipush 9, 2) := by decide +kernel
theorem nd_Ref_mayKeep_36 : decode prog_7_method_18_code 36 = .ok (.iload_n 1, 1) := by decide +kernel
theorem nd_Ref_mayKeep_37 : decode prog_7_method_18_code 37 = .ok (.imul, 1) := by decide +kernel
theorem nd_Ref_mayKeep_38 : decode prog_7_method_18_code 38 = .ok (.iload_n 3, 1) := by decide +kernel
theorem nd_Ref_mayKeep_39 : decode prog_7_method_18_code 39 = .ok (.iadd, 1) := by decide +kernel
theorem nd_Ref_mayKeep_40 : decode prog_7_method_18_code 40 = .ok (.laload, 1) := by decide +kernel
theorem nd_Ref_mayKeep_41 : decode prog_7_method_18_code 41 = .ok (.lconst 0, 1) := by decide +kernel
theorem nd_Ref_mayKeep_42 : decode prog_7_method_18_code 42 = .ok (.lcmp, 1) := by decide +kernel
theorem nd_Ref_mayKeep_43 : decode prog_7_method_18_code 43 = .ok (.ifCond .le (21), 3) := by decide +kernel
theorem nd_Ref_mayKeep_46 : decode prog_7_method_18_code 46 = .ok (.aload_n 0, 1) := by decide +kernel
theorem nd_Ref_mayKeep_47 : decode prog_7_method_18_code 47 = .ok (.iload_n 3, 1) := by decide +kernel
theorem nd_Ref_mayKeep_48 : decode prog_7_method_18_code 48 = .ok (.invokevirtual 79, 3) := by decide +kernel
theorem nd_Ref_mayKeep_51 : decode prog_7_method_18_code 51 = .ok (.aload_n 0, 1) := by decide +kernel
theorem nd_Ref_mayKeep_52 : decode prog_7_method_18_code 52 = .ok (.getfield 7, 3) := by decide +kernel
theorem nd_Ref_mayKeep_55 : decode prog_7_method_18_code 55 = .ok (.iload_n 2, 1) := by decide +kernel
theorem nd_Ref_mayKeep_56 : decode prog_7_method_18_code 56 = .ok (.iaload, 1) := by decide +kernel
theorem nd_Ref_mayKeep_57 : decode prog_7_method_18_code 57 = .ok (.if_icmp .lt (7), 3) := by decide +kernel
theorem nd_Ref_mayKeep_60 : decode prog_7_method_18_code 60 = .ok (.iconst 1, 1) := by decide +kernel
theorem nd_Ref_mayKeep_61 : decode prog_7_method_18_code 61 = .ok (.goto (4), 3) := by decide +kernel
theorem nd_Ref_mayKeep_64 : decode prog_7_method_18_code 64 = .ok (.iconst 0, 1) := by decide +kernel
theorem nd_Ref_mayKeep_65 : decode prog_7_method_18_code 65 = .ok (.ireturn, 1) := by decide +kernel
def md_Ref_mayKeep (rf : cr_S) (lat : Int64) (ln : (Nat → Int64)) (x1 : Int32) (x2 : Int32) (x3 : Int32) : Int32 :=
  (if (rf 2 x1.toNatClampNeg) = (rf 2 x2.toNatClampNeg) then (if (rf 1 x2.toNatClampNeg) ≤ (rf 1 x1.toNatClampNeg) then (0 : Int32) else (if (lg_cmp (ln (((9 : Int32) * x1) + x3).toNatClampNeg) (0 : Int64)) ≤ 0 then (0 : Int32) else (if (md_Ref_ceilingOf rf lat ln x3) < (rf 1 x2.toNatClampNeg) then (0 : Int32) else (1 : Int32)))) else (0 : Int32))
abbrev pq_Ref_mayKeep (dC : Nat → ClassId) (dI : Nat → Nat → Nat) (cI cZ cJ : ClassId) (arf : Nat → Nat) (rf : cr_S) (lat : Int64) (ln : (Nat → Int64)) (x1 : Int32) (x2 : Int32) (x3 : Int32) (A : Nat → Prop) : Array Value → State → Outcome → State → Prop :=
  va_Qi (fun (r : Int32) (_ : Unit) => r = md_Ref_mayKeep rf lat ln x1 x2 x3) (fun (_ : Unit) t => va_P (dC, dI) vwCl (cw_Ref cI cZ cJ arf rf lat ln) t.heap ∧ va_K (dC, dI) vwCl [(cI, .int), (cZ, .boolean), (cJ, .long)] t ∧ va_D A (cw_Ref cI cZ cJ arf rf lat ln)) A
set_option maxHeartbeats 4000000 in
set_option maxRecDepth 100000 in
theorem ct_Ref_mayKeep (l : Launch) (dC : Nat → ClassId) (dI : Nat → Nat → Nat) (cI cZ cJ : ClassId) (arf : Nat → Nat) (sz : Nat) (rf : cr_S) (lat : Int64) (ln : (Nat → Int64)) (x1 : Int32) (x2 : Int32) (x3 : Int32) (hR_rf : cr_RRef rf) (hx1 : 0 ≤ x1.toInt ∧ x1.toInt ≤ 10) (hx2 : 0 ≤ x2.toInt ∧ x2.toInt ≤ 10) (hx3 : 0 ≤ x3.toInt ∧ x3.toInt ≤ 8) : Met l ny_Ref_mayKeep nw_Ref_mayKeep ({ frames := 1, cells := 0, slots := 0, locals := 23 } : Room) (va_Pc [.ref (arf 0), .int x1, .int x2, .int x3] (fun U => U.heap.size = sz ∧ va_P (dC, dI) vwCl (cw_Ref cI cZ cJ arf rf lat ln) U.heap ∧ va_K (dC, dI) vwCl [(cI, .int), (cZ, .boolean), (cJ, .long)] U ∧ va_D (fun _ => True) (cw_Ref cI cZ cJ arf rf lat ln))) (pq_Ref_mayKeep dC dI cI cZ cJ arf rf lat ln x1 x2 x3 (va_A (cw_Ref cI cZ cJ arf rf lat ln) sz)) 0 0 (va_A (cw_Ref cI cZ cJ arf rf lat ln) sz) := by
  refine Met.ofW (cc := prog_7_method_18_code) (maxL := 4) (ret := (some .boolean)) (by decide) rfl ?_
  intro p e s m args below meth c s₁ B hml hv
  obtain ⟨rfl, hsz, hP, hK, hD0⟩ := hv
  have hx := B.exec
  have hb := B.bytes
  have hr := B.returns
  have hts0 := atoms_spec (ws := nw_Ref_mayKeep) B.pre
  have hts : ∀ w ∈ ng_tbl, w.before ([.ref (arf 0), .int x1, .int x2, .int x3] : List Value).toArray s = true := fun w h => hts0 w (List.mem_cons_of_mem _ h)
  have hown : s.vm.findClass "CeilingRowsModel" = some m.cls := findClass_of_methodNamed B.named
  have hlocks := B.notSynchronized
  subst hsz
  have hD := hD0.self (sz := s.heap.size)
  generalize hAe : va_A (cw_Ref cI cZ cJ arf rf lat ln) s.heap.size = A at hD ⊢
  have hA : ∀ q : Nat, s.heap.size ≤ q → A q := fun q h => by rw [← hAe]; exact Or.inr h
  have hS : va_S A s.heap s.heap [] := va_S.rf
  have hP : va_P (dC, dI) vwCl (cw_Ref cI cZ cJ arf rf lat ln) s.heap := hP
  have hl := lv_entry ([.ref (arf 0), .int x1, .int x2, .int x3]) (n := 4) (Nat.le_of_ble_eq_true rfl)
  rw [lg_entry_eq]
  generalize (lg_sl ([.ref (arf 0), .int x1, .int x2, .int x3]) ++ List.replicate (4 - (lg_sl ([.ref (arf 0), .int x1, .int x2, .int x3])).length) Slot.unset).toArray = ls at hl ⊢
  have hl : lv_has ls 4 [(0, .ref (arf 0)), (1, .int x1), (2, .int x2), (3, .int x3)] := hl
  have f0_rf_0 := cr_rfo hR_rf.1
  have f0_rf_1 := cr_rfo hR_rf.2.1
  have k_0 : (0 : Int32).toInt = 0 := by decide
  have k_1 : (1 : Int32).toInt = 1 := by decide
  have k_9 : (9 : Int32).toInt = 9 := by decide
  obtain ⟨tgt, hT⟩ : ∃ z, md_Ref_mayKeep rf lat ln x1 x2 x3 = z := ⟨_, rfl⟩
  have hM := hT
  unfold md_Ref_mayKeep at hM
  refine lv_aload_n hx hb nd_Ref_mayKeep_0 rfl (lv_at hl 0 rfl) ?_
  refine va_get (D := (dC, dI)) (ci := 5) (v := .ref (arf 2)) (C := "CeilingRowsModel") (T := nf_Ref) (N := 22) hx hb hts nin_Ref hown hK hP 0 rfl rfl 2 (by decide) (hts _ tw_415) (fun _ h9 => h9) rfl nd_Ref_mayKeep_1 ?_
  refine lv_iload_n hx hb nd_Ref_mayKeep_4 rfl (lv_at hl 1 rfl) ?_
  have b_1 : vp_in x1 11 := vp_in_iff.mpr (by omega)
  refine va_iald hx hb hK hP 2 0 rfl rfl b_1 nd_Ref_mayKeep_5 ?_
  have f_2 := cr_rgo hR_rf.2.2.1 (x1.toNatClampNeg)
  refine lv_aload_n hx hb nd_Ref_mayKeep_6 rfl (lv_at hl 0 rfl) ?_
  refine va_get (D := (dC, dI)) (ci := 5) (v := .ref (arf 2)) (C := "CeilingRowsModel") (T := nf_Ref) (N := 22) hx hb hts nin_Ref hown hK hP 0 rfl rfl 2 (by decide) (hts _ tw_415) (fun _ h9 => h9) rfl nd_Ref_mayKeep_7 ?_
  refine lv_iload_n hx hb nd_Ref_mayKeep_10 rfl (lv_at hl 2 rfl) ?_
  have b_3 : vp_in x2 11 := vp_in_iff.mpr (by omega)
  refine va_iald hx hb hK hP 2 0 rfl rfl b_3 nd_Ref_mayKeep_11 ?_
  have f_4 := cr_rgo hR_rf.2.2.1 (x2.toNatClampNeg)
  refine lv_icmp_ne (tgt := 64) hx hb nd_Ref_mayKeep_12 (by decide) (fun c_5 => ?_) (fun c_5 => ?_)
  · have c_5t := cr_ne c_5
    rw [if_neg c_5] at hM
    refine lv_iconst (v := 0) hx hb nd_Ref_mayKeep_64 (by decide) ?_
    exact W.zret (v := (0 : Int32)) (ty := .boolean) hx hb hr (by decide) (fun t ht hW => ⟨⟨(0 : Int32), (), rfl, by rw [hT, ← hM], by rw [ht]; exact hP, va_K.moved hW.alike hK, hD⟩, hS.F ht⟩) hS.2.2 nd_Ref_mayKeep_65
  · have c_5t := cr_eq c_5
    rw [if_pos c_5] at hM
    refine lv_aload_n hx hb nd_Ref_mayKeep_15 rfl (lv_at hl 0 rfl) ?_
    refine va_get (D := (dC, dI)) (ci := 5) (v := .ref (arf 1)) (C := "CeilingRowsModel") (T := nf_Ref) (N := 22) hx hb hts nin_Ref hown hK hP 0 rfl rfl 1 (by decide) (hts _ tw_414) (fun _ h9 => h9) rfl nd_Ref_mayKeep_16 ?_
    refine lv_iload_n hx hb nd_Ref_mayKeep_19 rfl (lv_at hl 1 rfl) ?_
    have b_6 : vp_in x1 11 := vp_in_iff.mpr (by omega)
    refine va_iald hx hb hK hP 1 0 rfl rfl b_6 nd_Ref_mayKeep_20 ?_
    refine lv_aload_n hx hb nd_Ref_mayKeep_21 rfl (lv_at hl 0 rfl) ?_
    refine va_get (D := (dC, dI)) (ci := 5) (v := .ref (arf 1)) (C := "CeilingRowsModel") (T := nf_Ref) (N := 22) hx hb hts nin_Ref hown hK hP 0 rfl rfl 1 (by decide) (hts _ tw_414) (fun _ h9 => h9) rfl nd_Ref_mayKeep_22 ?_
    refine lv_iload_n hx hb nd_Ref_mayKeep_25 rfl (lv_at hl 2 rfl) ?_
    have b_7 : vp_in x2 11 := vp_in_iff.mpr (by omega)
    refine va_iald hx hb hK hP 1 0 rfl rfl b_7 nd_Ref_mayKeep_26 ?_
    refine lv_icmp_ge (tgt := 64) hx hb nd_Ref_mayKeep_27 (by decide) (fun c_8 => ?_) (fun c_8 => ?_)
    · have c_8t := cr_le c_8
      rw [if_pos c_8] at hM
      refine lv_iconst (v := 0) hx hb nd_Ref_mayKeep_64 (by decide) ?_
      exact W.zret (v := (0 : Int32)) (ty := .boolean) hx hb hr (by decide) (fun t ht hW => ⟨⟨(0 : Int32), (), rfl, by rw [hT, ← hM], by rw [ht]; exact hP, va_K.moved hW.alike hK, hD⟩, hS.F ht⟩) hS.2.2 nd_Ref_mayKeep_65
    · have c_8t := cr_nle c_8
      rw [if_neg c_8] at hM
      refine lv_aload_n hx hb nd_Ref_mayKeep_30 rfl (lv_at hl 0 rfl) ?_
      refine va_get (D := (dC, dI)) (ci := 5) (v := .ref (arf 6)) (C := "CeilingRowsModel") (T := nf_Ref) (N := 22) hx hb hts nin_Ref hown hK hP 0 rfl rfl 8 (by decide) (hts _ tw_421) (fun _ h9 => h9) rfl nd_Ref_mayKeep_31 ?_
      refine lv_bipush (v := 9) hx hb nd_Ref_mayKeep_34 (by decide) ?_
      refine lv_iload_n hx hb nd_Ref_mayKeep_36 rfl (lv_at hl 1 rfl) ?_
      refine lv_imul hx hb nd_Ref_mayKeep_37 ?_
      have e_9 : ((9 : Int32) * x1).toInt = 9 * x1.toInt := cr_mulL 9 k_9 (by omega)
      refine lv_iload_n hx hb nd_Ref_mayKeep_38 rfl (lv_at hl 3 rfl) ?_
      refine lv_iadd hx hb nd_Ref_mayKeep_39 ?_
      have e_10 : (((9 : Int32) * x1) + x3).toInt = ((9 : Int32) * x1).toInt + x3.toInt := cr_add (by omega)
      have b_11 : vp_in (((9 : Int32) * x1) + x3) 99 := vp_in_iff.mpr (by omega)
      refine va_lald hx hb hK hP 6 2 rfl rfl b_11 nd_Ref_mayKeep_40 ?_
      refine lv_lconst (v := 0) hx hb nd_Ref_mayKeep_41 (by decide) ?_
      refine W.lcmp hx hb nd_Ref_mayKeep_42 ?_
      refine lv_if_le (tgt := 64) hx hb nd_Ref_mayKeep_43 (by decide) (fun c_12 => ?_) (fun c_12 => ?_)
      · have c_12t := cr_le c_12
        rw [if_pos c_12] at hM
        refine lv_iconst (v := 0) hx hb nd_Ref_mayKeep_64 (by decide) ?_
        exact W.zret (v := (0 : Int32)) (ty := .boolean) hx hb hr (by decide) (fun t ht hW => ⟨⟨(0 : Int32), (), rfl, by rw [hT, ← hM], by rw [ht]; exact hP, va_K.moved hW.alike hK, hD⟩, hS.F ht⟩) hS.2.2 nd_Ref_mayKeep_65
      · have c_12t := cr_nle c_12
        rw [if_neg c_12] at hM
        refine lv_aload_n hx hb nd_Ref_mayKeep_46 rfl (lv_at hl 0 rfl) ?_
        refine lv_iload_n hx hb nd_Ref_mayKeep_47 rfl (lv_at hl 3 rfl) ?_
        have hPc := hP
        have hDc := hD
        have hFc := va_free (wc := cw_Ref cI cZ cJ arf rf lat ln) hD hS hA [0, 1, 2, 3, 4, 5, 6, 7, 8, 9, 10, 11, 12, 13, 14, 15, 16, 17] rfl
        refine va_calli (va_runV (As := [.int x3]) (rest := []) ⟨hx, hb, hml, hown, hts⟩ (ct_Ref_ceilingOf l dC dI cI cZ cJ arf s.heap.size rf lat ln x3 hR_rf (by omega)) (cwV 1 hts (ng_V tw_506 tw_508 tp_20 tw_6 tw_509) rfl rfl rfl (by decide +kernel) ⟨Nat.le_of_ble_eq_true rfl, Nat.le_of_ble_eq_true rfl⟩) ⟨fun a U g mk q => by obtain ⟨q0, q1, qP, qK, qD⟩ := q; exact ⟨q0, q1, qP, va_K.moved (u := U) (U := U.calling g mk a) (Vm.Alike.refl U.vm) qK, qD⟩, va_recv hK hPc (ci := 5) (q0 := 0) rfl rfl, fun U hU hW => ⟨rfl, by rw [hU], by rw [hU]; exact hPc, va_K.moved hW.alike hK, hDc.weaken (fun _ _ _ _ => trivial)⟩⟩ rfl rfl hl.1 rfl (lv_room (Nat.le_of_ble_eq_true rfl)) nd_Ref_mayKeep_48 ⟨Nat.zero_le _, Nat.zero_le _⟩) hS (fun q _ h => hFc q h) hFc (fun r_13 u t H1 locs ht hvm hw hB hz1 hk1 hS => ?_)
        obtain ⟨hP1, hK1, hD1⟩ := hB
        rw [ht] at hP1
        have w_14 := hw
        try rw [← w_14] at hM
        have hP := hP1
        have hD := cr_Dw hD1 hFc
        generalize H1 = H at hP hS ⊢
        refine lv_aload_n hx hb nd_Ref_mayKeep_51 rfl (lv_at hl 0 rfl) ?_
        refine va_get (D := (dC, dI)) (ci := 5) (v := .ref (arf 1)) (C := "CeilingRowsModel") (T := nf_Ref) (N := 22) hx hb hts nin_Ref hown hK hP 0 rfl rfl 1 (by decide) (hts _ tw_414) (fun _ h9 => h9) rfl nd_Ref_mayKeep_52 ?_
        refine lv_iload_n hx hb nd_Ref_mayKeep_55 rfl (lv_at hl 2 rfl) ?_
        have b_15 : vp_in x2 11 := vp_in_iff.mpr (by omega)
        refine va_iald hx hb hK hP 1 0 rfl rfl b_15 nd_Ref_mayKeep_56 ?_
        refine lv_icmp_lt (tgt := 64) hx hb nd_Ref_mayKeep_57 (by decide) (fun c_16 => ?_) (fun c_16 => ?_)
        · have c_16t := cr_lt c_16
          rw [if_pos c_16] at hM
          refine lv_iconst (v := 0) hx hb nd_Ref_mayKeep_64 (by decide) ?_
          exact W.zret (v := (0 : Int32)) (ty := .boolean) hx hb hr (by decide) (fun t ht hW => ⟨⟨(0 : Int32), (), rfl, by rw [hT, ← hM], by rw [ht]; exact hP, va_K.moved hW.alike hK, hD⟩, hS.F ht⟩) hS.2.2 nd_Ref_mayKeep_65
        · have c_16t := cr_nlt c_16
          rw [if_neg c_16] at hM
          refine lv_iconst (v := 1) hx hb nd_Ref_mayKeep_60 (by decide) ?_
          refine lv_goto (tgt := 65) hx hb nd_Ref_mayKeep_61 (by decide) ?_
          exact W.zret (v := (1 : Int32)) (ty := .boolean) hx hb hr (by decide) (fun t ht hW => ⟨⟨(1 : Int32), (), rfl, by rw [hT, ← hM], by rw [ht]; exact hP, va_K.moved hW.alike hK, hD⟩, hS.F ht⟩) hS.2.2 nd_Ref_mayKeep_65

theorem nd_Ref_blocking_0 : decode prog_7_method_19_code 0 = .ok (.aload_n 0, 1) := by decide +kernel
theorem nd_Ref_blocking_1 : decode prog_7_method_19_code 1 = .ok (.iload_n 1, 1) := by decide +kernel
theorem nd_Ref_blocking_2 : decode prog_7_method_19_code 2 = .ok (.invokevirtual 70, 3) := by decide +kernel
theorem nd_Ref_blocking_5 : decode prog_7_method_19_code 5 = .ok (.ifCond .ne (7), 3) := by decide +kernel
theorem nd_Ref_blocking_8 : decode prog_7_method_19_code 8 = .ok (.ldc2_w 112, 3) := by decide +kernel
theorem nd_Ref_blocking_11 : decode prog_7_method_19_code 11 = .ok (.lreturn, 1) := by decide +kernel
theorem nd_Ref_blocking_12 : decode prog_7_method_19_code 12 = .ok (.lconst 0, 1) := by decide +kernel
theorem nd_Ref_blocking_13 : decode prog_7_method_19_code 13 = .ok (.lstore_n 2, 1) := by decide +kernel
theorem nd_Ref_blocking_14 : decode prog_7_method_19_code 14 = .ok (.iconst 1, 1) := by decide +kernel
theorem nd_Ref_blocking_15 : decode prog_7_method_19_code 15 = .ok (.istore 4, 2) := by decide +kernel
theorem nd_Ref_blocking_17 : decode prog_7_method_19_code 17 = .ok (.iload 4, 2) := by decide +kernel
theorem nd_Ref_blocking_19 : decode prog_7_method_19_code 19 = .ok (.aload_n 0, 1) := by decide +kernel
theorem nd_Ref_blocking_20 : decode prog_7_method_19_code 20 = .ok (.getfield 63, 3) := by decide +kernel
theorem nd_Ref_blocking_23 : decode prog_7_method_19_code 23 = .ok (.if_icmp .gt (75), 3) := by decide +kernel
theorem nd_Ref_blocking_26 : decode prog_7_method_19_code 26 = .ok (.iconst 1, 1) := by decide +kernel
theorem nd_Ref_blocking_27 : decode prog_7_method_19_code 27 = .ok (.istore 5, 2) := by decide +kernel
theorem nd_Ref_blocking_29 : decode prog_7_method_19_code 29 = .ok (.iload 5, 2) := by decide +kernel
theorem nd_Ref_blocking_31 : decode prog_7_method_19_code 31 = .ok (.aload_n 0, 1) := by decide +kernel
theorem nd_Ref_blocking_32 : decode prog_7_method_19_code 32 = .ok (.getfield 67, 3) := by decide +kernel
theorem nd_Ref_blocking_35 : decode prog_7_method_19_code 35 = .ok (.if_icmp .gt (57), 3) := by decide +kernel
theorem nd_Ref_blocking_38 : decode prog_7_method_19_code 38 = .ok (.aload_n 0, 1) := by decide +kernel
theorem nd_Ref_blocking_39 : decode prog_7_method_19_code 39 = .ok (.iload 4, 2) := by decide +kernel
theorem nd_Ref_blocking_41 : decode prog_7_method_19_code 41 = .ok (.iload_n 1, 1) := by decide +kernel
theorem nd_Ref_blocking_42 : decode prog_7_method_19_code 42 = .ok (.iload 5, 2) := by decide +kernel
theorem nd_Ref_blocking_44 : decode prog_7_method_19_code 44 = .ok (.invokevirtual 114, 3) := by decide +kernel
theorem nd_Ref_blocking_47 : decode prog_7_method_19_code 47 = .ok (.ifCond .eq (37), 3) := by decide +kernel
theorem nd_Ref_blocking_50 : decode prog_7_method_19_code 50 = .ok (.aload_n 0, 1) := by decide +kernel
theorem nd_Ref_blocking_51 : decode prog_7_method_19_code 51 = .ok (.getfield 26, 3) := by decide +kernel
theorem nd_Ref_blocking_54 : decode prog_7_method_19_code 54 = .ok (.bipush 9, 2) := by decide +kernel
theorem nd_Ref_blocking_56 : decode prog_7_method_19_code 56 = .ok (.iload 4, 2) := by decide +kernel
theorem nd_Ref_blocking_58 : decode prog_7_method_19_code 58 = .ok (.imul, 1) := by decide +kernel
theorem nd_Ref_blocking_59 : decode prog_7_method_19_code 59 = .ok (.iload 5, 2) := by decide +kernel
theorem nd_Ref_blocking_61 : decode prog_7_method_19_code 61 = .ok (.iadd, 1) := by decide +kernel
theorem nd_Ref_blocking_62 : decode prog_7_method_19_code 62 = .ok (.laload, 1) := by decide +kernel
theorem nd_Ref_blocking_63 : decode prog_7_method_19_code 63 = .ok (.lload_n 2, 1) := by decide +kernel
theorem nd_Ref_blocking_64 : decode prog_7_method_19_code 64 = .ok (.lcmp, 1) := by decide +kernel
theorem nd_Ref_blocking_65 : decode prog_7_method_19_code 65 = .ok (.ifCond .le (19), 3) := by decide +kernel
theorem nd_Ref_blocking_68 : decode prog_7_method_19_code 68 = .ok (.aload_n 0, 1) := by decide +kernel
theorem nd_Ref_blocking_69 : decode prog_7_method_19_code 69 = .ok (.getfield 26, 3) := by decide +kernel
theorem nd_Ref_blocking_72 : decode prog_7_method_19_code 72 = .ok (.bipush 9, 2) := by decide +kernel
theorem nd_Ref_blocking_74 : decode prog_7_method_19_code 74 = .ok (.iload 4, 2) := by decide +kernel
theorem nd_Ref_blocking_76 : decode prog_7_method_19_code 76 = .ok (.imul, 1) := by decide +kernel
theorem nd_Ref_blocking_77 : decode prog_7_method_19_code 77 = .ok (.iload 5, 2) := by decide +kernel
theorem nd_Ref_blocking_79 : decode prog_7_method_19_code 79 = .ok (.iadd, 1) := by decide +kernel
theorem nd_Ref_blocking_80 : decode prog_7_method_19_code 80 = .ok (.laload, 1) := by decide +kernel
theorem nd_Ref_blocking_81 : decode prog_7_method_19_code 81 = .ok (.goto (4), 3) := by decide +kernel
theorem nd_Ref_blocking_84 : decode prog_7_method_19_code 84 = .ok (.lload_n 2, 1) := by decide +kernel
theorem nd_Ref_blocking_85 : decode prog_7_method_19_code 85 = .ok (.lstore_n 2, 1) := by decide +kernel
theorem nd_Ref_blocking_86 : decode prog_7_method_19_code 86 = .ok (.iinc 5 1, 3) := by decide +kernel
theorem nd_Ref_blocking_89 : decode prog_7_method_19_code 89 = .ok (.goto (-60), 3) := by decide +kernel
theorem nd_Ref_blocking_92 : decode prog_7_method_19_code 92 = .ok (.iinc 4 1, 3) := by decide +kernel
theorem nd_Ref_blocking_95 : decode prog_7_method_19_code 95 = .ok (.goto (-78), 3) := by decide +kernel
theorem nd_Ref_blocking_98 : decode prog_7_method_19_code 98 = .ok (.lload_n 2, 1) := by decide +kernel
theorem nd_Ref_blocking_99 : decode prog_7_method_19_code 99 = .ok (.lreturn, 1) := by decide +kernel
def lo_Ref_blocking_29 (rf : cr_S) (lat : Int64) (ln : (Nat → Int64)) (x1 : Int32) (w4 : Int32) : Nat → Int64 → Int32 → Int64
  | 0, v2_29, _ => v2_29
  | n_29 + 1, v2_29, v5_29 =>
    (if (rf 0 2) < v5_29 then v2_29 else (if (md_Ref_mayKeep rf lat ln w4 x1 v5_29) = 0 then (lo_Ref_blocking_29 rf lat ln x1 w4 n_29 v2_29 (v5_29 + (1 : Int32))) else (if (lg_cmp (ln (((9 : Int32) * w4) + v5_29).toNatClampNeg) v2_29) ≤ 0 then (lo_Ref_blocking_29 rf lat ln x1 w4 n_29 v2_29 (v5_29 + (1 : Int32))) else (lo_Ref_blocking_29 rf lat ln x1 w4 n_29 (ln (((9 : Int32) * w4) + v5_29).toNatClampNeg) (v5_29 + (1 : Int32))))))
def lo_Ref_blocking_17 (rf : cr_S) (lat : Int64) (ln : (Nat → Int64)) (x1 : Int32) : Nat → Int64 → Int32 → Int64
  | 0, _, _ => 0
  | n_17 + 1, v2_17, v4_17 =>
    (if (rf 0 0) < v4_17 then v2_17 else (lo_Ref_blocking_17 rf lat ln x1 n_17 (lo_Ref_blocking_29 rf lat ln x1 v4_17 9 v2_17 (1 : Int32)) (v4_17 + (1 : Int32))))
def md_Ref_blocking (rf : cr_S) (lat : Int64) (ln : (Nat → Int64)) (x1 : Int32) : Int64 :=
  (if (md_Ref_isTask rf lat ln x1) = 0 then (-1 : Int64) else (lo_Ref_blocking_17 rf lat ln x1 11 (0 : Int64) (1 : Int32)))
abbrev pq_Ref_blocking (dC : Nat → ClassId) (dI : Nat → Nat → Nat) (cI cZ cJ : ClassId) (arf : Nat → Nat) (rf : cr_S) (lat : Int64) (ln : (Nat → Int64)) (x1 : Int32) (A : Nat → Prop) : Array Value → State → Outcome → State → Prop :=
  va_Ql (fun (r : Int64) (_ : Unit) => r = md_Ref_blocking rf lat ln x1) (fun (_ : Unit) t => va_P (dC, dI) vwCl (cw_Ref cI cZ cJ arf rf lat ln) t.heap ∧ va_K (dC, dI) vwCl [(cI, .int), (cZ, .boolean), (cJ, .long)] t ∧ va_D A (cw_Ref cI cZ cJ arf rf lat ln)) A
set_option maxHeartbeats 4000000 in
set_option maxRecDepth 100000 in
theorem ct_Ref_blocking (l : Launch) (dC : Nat → ClassId) (dI : Nat → Nat → Nat) (cI cZ cJ : ClassId) (arf : Nat → Nat) (sz : Nat) (rf : cr_S) (lat : Int64) (ln : (Nat → Int64)) (x1 : Int32) (hR_rf : cr_RRef rf) : Met l ny_Ref_blocking nw_Ref_blocking ({ frames := 2, cells := 0, slots := 0, locals := 46 } : Room) (va_Pc [.ref (arf 0), .int x1] (fun U => U.heap.size = sz ∧ va_P (dC, dI) vwCl (cw_Ref cI cZ cJ arf rf lat ln) U.heap ∧ va_K (dC, dI) vwCl [(cI, .int), (cZ, .boolean), (cJ, .long)] U ∧ va_D (fun _ => True) (cw_Ref cI cZ cJ arf rf lat ln))) (pq_Ref_blocking dC dI cI cZ cJ arf rf lat ln x1 (va_A (cw_Ref cI cZ cJ arf rf lat ln) sz)) 0 0 (va_A (cw_Ref cI cZ cJ arf rf lat ln) sz) := by
  refine Met.ofW (cc := prog_7_method_19_code) (maxL := 6) (ret := (some .long)) (by decide) rfl ?_
  intro p e s m args below meth c s₁ B hml hv
  obtain ⟨rfl, hsz, hP, hK, hD0⟩ := hv
  have hx := B.exec
  have hb := B.bytes
  have hr := B.returns
  have hts0 := atoms_spec (ws := nw_Ref_blocking) B.pre
  have hts : ∀ w ∈ ng_tbl, w.before ([.ref (arf 0), .int x1] : List Value).toArray s = true := fun w h => hts0 w (List.mem_cons_of_mem _ h)
  have hown : s.vm.findClass "CeilingRowsModel" = some m.cls := findClass_of_methodNamed B.named
  have hlocks := B.notSynchronized
  subst hsz
  have hD := hD0.self (sz := s.heap.size)
  generalize hAe : va_A (cw_Ref cI cZ cJ arf rf lat ln) s.heap.size = A at hD ⊢
  have hA : ∀ q : Nat, s.heap.size ≤ q → A q := fun q h => by rw [← hAe]; exact Or.inr h
  have hS : va_S A s.heap s.heap [] := va_S.rf
  have hP : va_P (dC, dI) vwCl (cw_Ref cI cZ cJ arf rf lat ln) s.heap := hP
  have hl := lv_entry ([.ref (arf 0), .int x1]) (n := 6) (Nat.le_of_ble_eq_true rfl)
  rw [lg_entry_eq]
  generalize (lg_sl ([.ref (arf 0), .int x1]) ++ List.replicate (6 - (lg_sl ([.ref (arf 0), .int x1])).length) Slot.unset).toArray = ls at hl ⊢
  have hl : lv_has ls 6 [(0, .ref (arf 0)), (1, .int x1)] := hl
  have f0_rf_0 := cr_rfo hR_rf.1
  have f0_rf_1 := cr_rfo hR_rf.2.1
  have k_0 : (0 : Int32).toInt = 0 := by decide
  have k_1 : (1 : Int32).toInt = 1 := by decide
  have k_9 : (9 : Int32).toInt = 9 := by decide
  obtain ⟨tgt, hT⟩ : ∃ z, md_Ref_blocking rf lat ln x1 = z := ⟨_, rfl⟩
  have hM := hT
  unfold md_Ref_blocking at hM
  refine lv_aload_n hx hb nd_Ref_blocking_0 rfl (lv_at hl 0 rfl) ?_
  refine lv_iload_n hx hb nd_Ref_blocking_1 rfl (lv_at hl 1 rfl) ?_
  have hPc := hP
  have hDc := hD
  have hFc := va_free (wc := cw_Ref cI cZ cJ arf rf lat ln) hD hS hA [0, 1, 2, 3, 4, 5, 6, 7, 8, 9, 10, 11, 12, 13, 14, 15, 16, 17] rfl
  refine va_calli (va_runV (As := [.int x1]) (rest := []) ⟨hx, hb, hml, hown, hts⟩ (ct_Ref_isTask l dC dI cI cZ cJ arf s.heap.size rf lat ln x1 hR_rf) (cwV 1 hts (ng_V tw_493 tw_495 tp_18 tw_6 tw_496) rfl rfl rfl (by decide +kernel) ⟨Nat.le_of_ble_eq_true rfl, Nat.le_of_ble_eq_true rfl⟩) ⟨fun a U g mk q => by obtain ⟨q0, q1, qP, qK, qD⟩ := q; exact ⟨q0, q1, qP, va_K.moved (u := U) (U := U.calling g mk a) (Vm.Alike.refl U.vm) qK, qD⟩, va_recv hK hPc (ci := 5) (q0 := 0) rfl rfl, fun U hU hW => ⟨rfl, by rw [hU], by rw [hU]; exact hPc, va_K.moved hW.alike hK, hDc.weaken (fun _ _ _ _ => trivial)⟩⟩ rfl rfl hl.1 rfl (lv_room (Nat.le_of_ble_eq_true rfl)) nd_Ref_blocking_2 ⟨Nat.zero_le _, Nat.zero_le _⟩) hS (fun q _ h => hFc q h) hFc (fun r_1 u t H1 locs ht hvm hw hB hz1 hk1 hS => ?_)
  obtain ⟨hP1, hK1, hD1⟩ := hB
  rw [ht] at hP1
  obtain ⟨w_2, f_3⟩ := hw
  try rw [← w_2] at hM
  have hP := hP1
  have hD := cr_Dw hD1 hFc
  generalize H1 = H at hP hS ⊢
  refine lv_if_ne (tgt := 12) hx hb nd_Ref_blocking_5 (by decide) (fun c_4 => ?_) (fun c_4 => ?_)
  · have c_4t := cr_ne c_4
    rw [if_neg c_4] at hM
    refine lv_lconst (v := 0) hx hb nd_Ref_blocking_12 (by decide) ?_
    refine lv_lstore_n (lv' := [(2, .long (0 : Int64)), (0, .ref (arf 0)), (1, .int x1)]) hx hb nd_Ref_blocking_13 rfl hl (by decide) rfl (fun ls hl => ?_)
    refine lv_iconst (v := 1) hx hb nd_Ref_blocking_14 (by decide) ?_
    refine lv_istore (lv' := [(4, .int (1 : Int32)), (2, .long (0 : Int64)), (0, .ref (arf 0)), (1, .int x1)]) hx hb nd_Ref_blocking_15 hl (by decide) rfl (fun ls hl => ?_)
    have hl := lv_sub hl [2, 3, 1, 0] rfl
    have lp_17 : ∀ (n_17 : Nat) (v2_17 : Int64) (v4_17 : Int32), (1 ≤ v4_17.toInt ∧ v4_17.toInt ≤ 11) → (11 < v4_17.toInt + (n_17 : Int)) → lo_Ref_blocking_17 rf lat ln x1 n_17 v2_17 v4_17 = tgt → ∀ (H : Heap) (locs : List Loc), va_P (dC, dI) vwCl (cw_Ref cI cZ cJ arf rf lat ln) H → va_D A (cw_Ref cI cZ cJ arf rf lat ln) → va_S A s.heap H locs → ∀ ls : Array Slot, lv_has ls 6 [(0, .ref (arf 0)), (1, .int x1), (2, .long v2_17), (4, .int v4_17)] → W p l e (headSpec nw_Ref_blocking ({ frames := 2, cells := 0, slots := 0, locals := 46 } : Room)).room s m ([.ref (arf 0), .int x1] : List Value).toArray below meth c H locs 0 0 (MQ below (pq_Ref_blocking dC dI cI cZ cJ arf rf lat ln x1 A) ([.ref (arf 0), .int x1] : List Value).toArray s 0 0 A) (F0 m 17 ls []) := by
      intro n_17
      induction n_17 with
      | zero =>
        intro v2_17 v4_17 hv4_17 hn_17
        exfalso; omega
      | succ n_17 ih_17 =>
        intro v2_17 v4_17 hv4_17 hn_17 hM H locs hP hD hS ls hl
        have hn_17 : 11 < v4_17.toInt + ((n_17 : Int) + 1) := by omega
        rw [lo_Ref_blocking_17] at hM
        refine lv_iload hx hb nd_Ref_blocking_17 (lv_at hl 3 rfl) ?_
        refine lv_aload_n hx hb nd_Ref_blocking_19 rfl (lv_at hl 0 rfl) ?_
        refine va_get (D := (dC, dI)) (ci := 5) (v := .int (rf 0 0)) (C := "CeilingRowsModel") (T := nf_Ref) (N := 22) hx hb hts nin_Ref hown hK hP 0 rfl rfl 0 (by decide) (hts _ tw_413) (fun _ h9 => h9) rfl nd_Ref_blocking_20 ?_
        have f_5 := cr_rfo hR_rf.1
        refine lv_icmp_gt (tgt := 98) hx hb nd_Ref_blocking_23 (by decide) (fun c_6 => ?_) (fun c_6 => ?_)
        · have c_6t := cr_lt c_6
          rw [if_pos c_6] at hM
          refine lv_lload_n hx hb nd_Ref_blocking_98 rfl (lv_at hl 2 rfl) ?_
          exact W.lret (v := v2_17) hx hb hr (fun t ht hW => ⟨⟨v2_17, (), rfl, by rw [hT, ← hM], by rw [ht]; exact hP, va_K.moved hW.alike hK, hD⟩, hS.F ht⟩) hS.2.2 nd_Ref_blocking_99
        · have c_6t := cr_nlt c_6
          rw [if_neg c_6] at hM
          refine lv_iconst (v := 1) hx hb nd_Ref_blocking_26 (by decide) ?_
          refine lv_istore (lv' := [(5, .int (1 : Int32)), (0, .ref (arf 0)), (1, .int x1), (2, .long v2_17), (4, .int v4_17)]) hx hb nd_Ref_blocking_27 hl (by decide) rfl (fun ls hl => ?_)
          have hl := lv_sub hl [1, 2, 3, 4, 0] rfl
          obtain ⟨ti_29, hti_29⟩ : ∃ z, lo_Ref_blocking_29 rf lat ln x1 v4_17 9 v2_17 (1 : Int32) = z := ⟨_, rfl⟩
          try rw [hti_29] at hM
          have hex_29 : ∀ (H : Heap) (locs : List Loc), va_P (dC, dI) vwCl (cw_Ref cI cZ cJ arf rf lat ln) H → va_D A (cw_Ref cI cZ cJ arf rf lat ln) → va_S A s.heap H locs → ∀ ls : Array Slot, lv_has ls 6 [(0, .ref (arf 0)), (1, .int x1), (2, .long ti_29), (4, .int v4_17)] → W p l e (headSpec nw_Ref_blocking ({ frames := 2, cells := 0, slots := 0, locals := 46 } : Room)).room s m ([.ref (arf 0), .int x1] : List Value).toArray below meth c H locs 0 0 (MQ below (pq_Ref_blocking dC dI cI cZ cJ arf rf lat ln x1 A) ([.ref (arf 0), .int x1] : List Value).toArray s 0 0 A) (F0 m 92 ls []) := by
            intro  H locs hP hD hS ls hl
            have e_7 : (v4_17 + (1 : Int32)).toInt = v4_17.toInt + (1 : Int32).toInt := cr_add (by omega)
            refine lv_iinc (v := (v4_17 + (1 : Int32))) (lv' := [(4, .int (v4_17 + (1 : Int32))), (0, .ref (arf 0)), (1, .int x1), (2, .long ti_29)]) hx hb nd_Ref_blocking_92 hl (k := 3) rfl (by rfl) (by decide) rfl (fun ls hl => ?_)
            refine lv_goto (tgt := 17) hx hb nd_Ref_blocking_95 (by decide) ?_
            exact ih_17 ti_29 (v4_17 + (1 : Int32)) (by omega) (by omega) hM _ _ hP hD hS _ (lv_sub hl [1, 2, 3, 0] rfl)
          have lp_29 : ∀ (n_29 : Nat) (v2_29 : Int64) (v5_29 : Int32), (1 ≤ v5_29.toInt ∧ v5_29.toInt ≤ 9) → (9 < v5_29.toInt + (n_29 : Int)) → lo_Ref_blocking_29 rf lat ln x1 v4_17 n_29 v2_29 v5_29 = ti_29 → ∀ (H : Heap) (locs : List Loc), va_P (dC, dI) vwCl (cw_Ref cI cZ cJ arf rf lat ln) H → va_D A (cw_Ref cI cZ cJ arf rf lat ln) → va_S A s.heap H locs → ∀ ls : Array Slot, lv_has ls 6 [(0, .ref (arf 0)), (1, .int x1), (2, .long v2_29), (4, .int v4_17), (5, .int v5_29)] → W p l e (headSpec nw_Ref_blocking ({ frames := 2, cells := 0, slots := 0, locals := 46 } : Room)).room s m ([.ref (arf 0), .int x1] : List Value).toArray below meth c H locs 0 0 (MQ below (pq_Ref_blocking dC dI cI cZ cJ arf rf lat ln x1 A) ([.ref (arf 0), .int x1] : List Value).toArray s 0 0 A) (F0 m 29 ls []) := by
            try clear hM
            intro n_29
            induction n_29 with
            | zero =>
              intro v2_29 v5_29 hv5_29 hn_29
              exfalso; omega
            | succ n_29 ih_29 =>
              intro v2_29 v5_29 hv5_29 hn_29 hM H locs hP hD hS ls hl
              have hn_29 : 9 < v5_29.toInt + ((n_29 : Int) + 1) := by omega
              rw [lo_Ref_blocking_29] at hM
              refine lv_iload hx hb nd_Ref_blocking_29 (lv_at hl 4 rfl) ?_
              refine lv_aload_n hx hb nd_Ref_blocking_31 rfl (lv_at hl 0 rfl) ?_
              refine va_get (D := (dC, dI)) (ci := 5) (v := .int (rf 0 2)) (C := "CeilingRowsModel") (T := nf_Ref) (N := 22) hx hb hts nin_Ref hown hK hP 0 rfl rfl 7 (by decide) (hts _ tw_420) (fun _ h9 => h9) rfl nd_Ref_blocking_32 ?_
              have f_8 := cr_rfo hR_rf.2.1
              refine lv_icmp_gt (tgt := 92) hx hb nd_Ref_blocking_35 (by decide) (fun c_9 => ?_) (fun c_9 => ?_)
              · have c_9t := cr_lt c_9
                rw [if_pos c_9] at hM
                subst hM
                exact hex_29  _ _ hP hD hS _ (lv_sub hl [0, 1, 2, 3] rfl)
              · have c_9t := cr_nlt c_9
                rw [if_neg c_9] at hM
                refine lv_aload_n hx hb nd_Ref_blocking_38 rfl (lv_at hl 0 rfl) ?_
                refine lv_iload hx hb nd_Ref_blocking_39 (lv_at hl 3 rfl) ?_
                refine lv_iload_n hx hb nd_Ref_blocking_41 rfl (lv_at hl 1 rfl) ?_
                refine lv_iload hx hb nd_Ref_blocking_42 (lv_at hl 4 rfl) ?_
                have hPc := hP
                have hDc := hD
                have hFc := va_free (wc := cw_Ref cI cZ cJ arf rf lat ln) hD hS hA [0, 1, 2, 3, 4, 5, 6, 7, 8, 9, 10, 11, 12, 13, 14, 15, 16, 17] rfl
                refine va_calli (va_runV (As := [.int v4_17, .int x1, .int v5_29]) (rest := []) ⟨hx, hb, hml, hown, hts⟩ (ct_Ref_mayKeep l dC dI cI cZ cJ arf H.size rf lat ln v4_17 x1 v5_29 hR_rf (by omega) (by omega) (by omega)) (cwV 3 hts (ng_V tw_552 tw_554 tp_27 tw_6 tw_555) rfl rfl rfl (by decide +kernel) ⟨Nat.le_of_ble_eq_true rfl, Nat.le_of_ble_eq_true rfl⟩) ⟨fun a U g mk q => by obtain ⟨q0, q1, qP, qK, qD⟩ := q; exact ⟨q0, q1, qP, va_K.moved (u := U) (U := U.calling g mk a) (Vm.Alike.refl U.vm) qK, qD⟩, va_recv hK hPc (ci := 5) (q0 := 0) rfl rfl, fun U hU hW => ⟨rfl, by rw [hU], by rw [hU]; exact hPc, va_K.moved hW.alike hK, hDc.weaken (fun _ _ _ _ => trivial)⟩⟩ rfl rfl hl.1 rfl (lv_room (Nat.le_of_ble_eq_true rfl)) nd_Ref_blocking_44 ⟨Nat.zero_le _, Nat.zero_le _⟩) hS (fun q _ h => hFc q h) hFc (fun r_10 u t H1 locs ht hvm hw hB hz1 hk1 hS => ?_)
                obtain ⟨hP1, hK1, hD1⟩ := hB
                rw [ht] at hP1
                have w_11 := hw
                try rw [← w_11] at hM
                have hP := hP1
                have hD := cr_Dw hD1 hFc
                generalize H1 = H at hP hS ⊢
                refine lv_if_eq (tgt := 84) hx hb nd_Ref_blocking_47 (by decide) (fun c_12 => ?_) (fun c_12 => ?_)
                · have c_12t := cr_eq c_12
                  rw [if_pos c_12] at hM
                  refine lv_lload_n hx hb nd_Ref_blocking_84 rfl (lv_at hl 2 rfl) ?_
                  refine lv_lstore_n (lv' := [(2, .long v2_29), (0, .ref (arf 0)), (1, .int x1), (4, .int v4_17), (5, .int v5_29)]) hx hb nd_Ref_blocking_85 rfl hl (by decide) rfl (fun ls hl => ?_)
                  have e_13 : (v5_29 + (1 : Int32)).toInt = v5_29.toInt + (1 : Int32).toInt := cr_add (by omega)
                  refine lv_iinc (v := (v5_29 + (1 : Int32))) (lv' := [(5, .int (v5_29 + (1 : Int32))), (2, .long v2_29), (0, .ref (arf 0)), (1, .int x1), (4, .int v4_17)]) hx hb nd_Ref_blocking_86 hl (k := 4) rfl (by rfl) (by decide) rfl (fun ls hl => ?_)
                  refine lv_goto (tgt := 29) hx hb nd_Ref_blocking_89 (by decide) ?_
                  exact ih_29 v2_29 (v5_29 + (1 : Int32)) (by omega) (by omega) hM _ _ hP hD hS _ (lv_sub hl [2, 3, 1, 4, 0] rfl)
                · have c_12t := cr_ne c_12
                  rw [if_neg c_12] at hM
                  refine lv_aload_n hx hb nd_Ref_blocking_50 rfl (lv_at hl 0 rfl) ?_
                  refine va_get (D := (dC, dI)) (ci := 5) (v := .ref (arf 6)) (C := "CeilingRowsModel") (T := nf_Ref) (N := 22) hx hb hts nin_Ref hown hK hP 0 rfl rfl 8 (by decide) (hts _ tw_421) (fun _ h9 => h9) rfl nd_Ref_blocking_51 ?_
                  refine lv_bipush (v := 9) hx hb nd_Ref_blocking_54 (by decide) ?_
                  refine lv_iload hx hb nd_Ref_blocking_56 (lv_at hl 3 rfl) ?_
                  refine lv_imul hx hb nd_Ref_blocking_58 ?_
                  have e_14 : ((9 : Int32) * v4_17).toInt = 9 * v4_17.toInt := cr_mulL 9 k_9 (by omega)
                  refine lv_iload hx hb nd_Ref_blocking_59 (lv_at hl 4 rfl) ?_
                  refine lv_iadd hx hb nd_Ref_blocking_61 ?_
                  have e_15 : (((9 : Int32) * v4_17) + v5_29).toInt = ((9 : Int32) * v4_17).toInt + v5_29.toInt := cr_add (by omega)
                  have b_16 : vp_in (((9 : Int32) * v4_17) + v5_29) 99 := vp_in_iff.mpr (by omega)
                  refine va_lald hx hb hK hP 6 2 rfl rfl b_16 nd_Ref_blocking_62 ?_
                  refine lv_lload_n hx hb nd_Ref_blocking_63 rfl (lv_at hl 2 rfl) ?_
                  refine W.lcmp hx hb nd_Ref_blocking_64 ?_
                  refine lv_if_le (tgt := 84) hx hb nd_Ref_blocking_65 (by decide) (fun c_17 => ?_) (fun c_17 => ?_)
                  · have c_17t := cr_le c_17
                    rw [if_pos c_17] at hM
                    refine lv_lload_n hx hb nd_Ref_blocking_84 rfl (lv_at hl 2 rfl) ?_
                    refine lv_lstore_n (lv' := [(2, .long v2_29), (0, .ref (arf 0)), (1, .int x1), (4, .int v4_17), (5, .int v5_29)]) hx hb nd_Ref_blocking_85 rfl hl (by decide) rfl (fun ls hl => ?_)
                    have e_18 : (v5_29 + (1 : Int32)).toInt = v5_29.toInt + (1 : Int32).toInt := cr_add (by omega)
                    refine lv_iinc (v := (v5_29 + (1 : Int32))) (lv' := [(5, .int (v5_29 + (1 : Int32))), (2, .long v2_29), (0, .ref (arf 0)), (1, .int x1), (4, .int v4_17)]) hx hb nd_Ref_blocking_86 hl (k := 4) rfl (by rfl) (by decide) rfl (fun ls hl => ?_)
                    refine lv_goto (tgt := 29) hx hb nd_Ref_blocking_89 (by decide) ?_
                    exact ih_29 v2_29 (v5_29 + (1 : Int32)) (by omega) (by omega) hM _ _ hP hD hS _ (lv_sub hl [2, 3, 1, 4, 0] rfl)
                  · have c_17t := cr_nle c_17
                    rw [if_neg c_17] at hM
                    refine lv_aload_n hx hb nd_Ref_blocking_68 rfl (lv_at hl 0 rfl) ?_
                    refine va_get (D := (dC, dI)) (ci := 5) (v := .ref (arf 6)) (C := "CeilingRowsModel") (T := nf_Ref) (N := 22) hx hb hts nin_Ref hown hK hP 0 rfl rfl 8 (by decide) (hts _ tw_421) (fun _ h9 => h9) rfl nd_Ref_blocking_69 ?_
                    refine lv_bipush (v := 9) hx hb nd_Ref_blocking_72 (by decide) ?_
                    refine lv_iload hx hb nd_Ref_blocking_74 (lv_at hl 3 rfl) ?_
                    refine lv_imul hx hb nd_Ref_blocking_76 ?_
                    have e_19 : ((9 : Int32) * v4_17).toInt = 9 * v4_17.toInt := cr_mulL 9 k_9 (by omega)
                    refine lv_iload hx hb nd_Ref_blocking_77 (lv_at hl 4 rfl) ?_
                    refine lv_iadd hx hb nd_Ref_blocking_79 ?_
                    have e_20 : (((9 : Int32) * v4_17) + v5_29).toInt = ((9 : Int32) * v4_17).toInt + v5_29.toInt := cr_add (by omega)
                    have b_21 : vp_in (((9 : Int32) * v4_17) + v5_29) 99 := vp_in_iff.mpr (by omega)
                    refine va_lald hx hb hK hP 6 2 rfl rfl b_21 nd_Ref_blocking_80 ?_
                    refine lv_goto (tgt := 85) hx hb nd_Ref_blocking_81 (by decide) ?_
                    refine lv_lstore_n (lv' := [(2, .long (ln (((9 : Int32) * v4_17) + v5_29).toNatClampNeg)), (0, .ref (arf 0)), (1, .int x1), (4, .int v4_17), (5, .int v5_29)]) hx hb nd_Ref_blocking_85 rfl hl (by decide) rfl (fun ls hl => ?_)
                    have e_22 : (v5_29 + (1 : Int32)).toInt = v5_29.toInt + (1 : Int32).toInt := cr_add (by omega)
                    refine lv_iinc (v := (v5_29 + (1 : Int32))) (lv' := [(5, .int (v5_29 + (1 : Int32))), (2, .long (ln (((9 : Int32) * v4_17) + v5_29).toNatClampNeg)), (0, .ref (arf 0)), (1, .int x1), (4, .int v4_17)]) hx hb nd_Ref_blocking_86 hl (k := 4) rfl (by rfl) (by decide) rfl (fun ls hl => ?_)
                    refine lv_goto (tgt := 29) hx hb nd_Ref_blocking_89 (by decide) ?_
                    exact ih_29 (ln (((9 : Int32) * v4_17) + v5_29).toNatClampNeg) (v5_29 + (1 : Int32)) (by omega) (by omega) hM _ _ hP hD hS _ (lv_sub hl [2, 3, 1, 4, 0] rfl)
          exact lp_29 9 v2_17 (1 : Int32) (by omega) (by omega) hti_29 _ _ hP hD hS _ hl
    exact lp_17 11 (0 : Int64) (1 : Int32) (by omega) (by omega) hM _ _ hP hD hS _ hl
  · have c_4t := cr_eq c_4
    rw [if_pos c_4] at hM
    refine lv_ldc2 (v := -1) hx hb hown (hts _ tw_551) nd_Ref_blocking_8 ?_
    exact W.lret (v := (-1 : Int64)) hx hb hr (fun t ht hW => ⟨⟨(-1 : Int64), (), rfl, by rw [hT, ← hM], by rw [ht]; exact hP, va_K.moved hW.alike hK, hD⟩, hS.F ht⟩) hS.2.2 nd_Ref_blocking_11

theorem nd_Ref_lower_0 : decode prog_7_method_20_code 0 = .ok (.aload_n 0, 1) := by decide +kernel
theorem nd_Ref_lower_1 : decode prog_7_method_20_code 1 = .ok (.iload_n 1, 1) := by decide +kernel
theorem nd_Ref_lower_2 : decode prog_7_method_20_code 2 = .ok (.invokevirtual 70, 3) := by decide +kernel
theorem nd_Ref_lower_5 : decode prog_7_method_20_code 5 = .ok (.ifCond .ne (5), 3) := by decide +kernel
theorem nd_Ref_lower_8 : decode prog_7_method_20_code 8 = .ok (.iconst (-1), 1) := by decide +kernel
theorem nd_Ref_lower_9 : decode prog_7_method_20_code 9 = .ok (.ireturn, 1) := by decide +kernel
theorem nd_Ref_lower_10 : decode prog_7_method_20_code 10 = .ok (.iload_n 2, 1) := by decide +kernel
theorem nd_Ref_lower_11 : decode prog_7_method_20_code 11 = .ok (.istore_n 3, 1) := by decide +kernel
theorem nd_Ref_lower_12 : decode prog_7_method_20_code 12 = .ok (.iconst 1, 1) := by decide +kernel
theorem nd_Ref_lower_13 : decode prog_7_method_20_code 13 = .ok (.istore 4, 2) := by decide +kernel
theorem nd_Ref_lower_15 : decode prog_7_method_20_code 15 = .ok (.iload 4, 2) := by decide +kernel
theorem nd_Ref_lower_17 : decode prog_7_method_20_code 17 = .ok (.aload_n 0, 1) := by decide +kernel
theorem nd_Ref_lower_18 : decode prog_7_method_20_code 18 = .ok (.getfield 63, 3) := by decide +kernel
theorem nd_Ref_lower_21 : decode prog_7_method_20_code 21 = .ok (.if_icmp .gt (76), 3) := by decide +kernel
theorem nd_Ref_lower_24 : decode prog_7_method_20_code 24 = .ok (.iload_n 2, 1) := by decide +kernel
theorem nd_Ref_lower_25 : decode prog_7_method_20_code 25 = .ok (.ifCond .lt (72), 3) := by decide +kernel
theorem nd_Ref_lower_28 : decode prog_7_method_20_code 28 = .ok (.iconst 0, 1) := by decide +kernel
theorem nd_Ref_lower_29 : decode prog_7_method_20_code 29 = .ok (.istore 5, 2) := by decide +kernel
theorem nd_Ref_lower_31 : decode prog_7_method_20_code 31 = .ok (.iconst 1, 1) := by decide +kernel
theorem nd_Ref_lower_32 : decode prog_7_method_20_code 32 = .ok (.istore 6, 2) := by decide +kernel
theorem nd_Ref_lower_34 : decode prog_7_method_20_code 34 = .ok (.iload 6, 2) := by decide +kernel
theorem nd_Ref_lower_36 : decode prog_7_method_20_code 36 = .ok (.aload_n 0, 1) := by decide +kernel
theorem nd_Ref_lower_37 : decode prog_7_method_20_code 37 = .ok (.getfield 67, 3) := by decide +kernel
theorem nd_Ref_lower_40 : decode prog_7_method_20_code 40 = .ok (.if_icmp .gt (33), 3) := by decide +kernel
theorem nd_Ref_lower_43 : decode prog_7_method_20_code 43 = .ok (.iload 5, 2) := by decide +kernel
theorem nd_Ref_lower_45 : decode prog_7_method_20_code 45 = .ok (.ifCond .ne (15), 3) := by decide +kernel
theorem nd_Ref_lower_48 : decode prog_7_method_20_code 48 = .ok (.aload_n 0, 1) := by decide +kernel
theorem nd_Ref_lower_49 : decode prog_7_method_20_code 49 = .ok (.iload 4, 2) := by decide +kernel
theorem nd_Ref_lower_51 : decode prog_7_method_20_code 51 = .ok (.iload_n 1, 1) := by decide +kernel
theorem nd_Ref_lower_52 : decode prog_7_method_20_code 52 = .ok (.iload 6, 2) := by decide +kernel
theorem nd_Ref_lower_54 : decode prog_7_method_20_code 54 = .ok (.invokevirtual 114, 3) := by decide +kernel
theorem nd_Ref_lower_57 : decode prog_7_method_20_code 57 = .ok (.ifCond .eq (7), 3) := by decide +kernel
theorem nd_Ref_lower_60 : decode prog_7_method_20_code 60 = .ok (.iconst 1, 1) := by decide +kernel
theorem nd_Ref_lower_61 : decode prog_7_method_20_code 61 = .ok (.goto (4), 3) := by decide +kernel
theorem nd_Ref_lower_64 : decode prog_7_method_20_code 64 = .ok (.iconst 0, 1) := by decide +kernel
theorem nd_Ref_lower_65 : decode prog_7_method_20_code 65 = .ok (.istore 5, 2) := by decide +kernel
theorem nd_Ref_lower_67 : decode prog_7_method_20_code 67 = .ok (.iinc 6 1, 3) := by decide +kernel
theorem nd_Ref_lower_70 : decode prog_7_method_20_code 70 = .ok (.goto (-36), 3) := by decide +kernel
theorem nd_Ref_lower_73 : decode prog_7_method_20_code 73 = .ok (.iload 5, 2) := by decide +kernel
theorem nd_Ref_lower_75 : decode prog_7_method_20_code 75 = .ok (.ifCond .ne (6), 3) := by decide +kernel
theorem nd_Ref_lower_78 : decode prog_7_method_20_code 78 = .ok (.goto (13), 3) := by decide +kernel
theorem nd_Ref_lower_81 : decode prog_7_method_20_code 81 = .ok (.iload_n 3, 1) := by decide +kernel
theorem nd_Ref_lower_82 : decode prog_7_method_20_code 82 = .ok (.ifCond .ne (6), 3) := by decide +kernel
theorem nd_Ref_lower_85 : decode prog_7_method_20_code 85 = .ok (.iload 4, 2) := by decide +kernel
theorem nd_Ref_lower_87 : decode prog_7_method_20_code 87 = .ok (.ireturn, 1) := by decide +kernel
theorem nd_Ref_lower_88 : decode prog_7_method_20_code 88 = .ok (.iinc 3 (-1), 3) := by decide +kernel
theorem nd_Ref_lower_91 : decode prog_7_method_20_code 91 = .ok (.iinc 4 1, 3) := by decide +kernel
theorem nd_Ref_lower_94 : decode prog_7_method_20_code 94 = .ok (.goto (-79), 3) := by decide +kernel
theorem nd_Ref_lower_97 : decode prog_7_method_20_code 97 = .ok (.iconst 0, 1) := by decide +kernel
theorem nd_Ref_lower_98 : decode prog_7_method_20_code 98 = .ok (.ireturn, 1) := by decide +kernel
def lo_Ref_lower_34 (rf : cr_S) (lat : Int64) (ln : (Nat → Int64)) (x1 : Int32) (x2 : Int32) (w3 : Int32) (w4 : Int32) : Nat → Int32 → Int32 → Int32
  | 0, v5_34, _ => v5_34
  | n_34 + 1, v5_34, v6_34 =>
    (if (rf 0 2) < v6_34 then v5_34 else (if v5_34 = 0 then (if (md_Ref_mayKeep rf lat ln w4 x1 v6_34) = 0 then (lo_Ref_lower_34 rf lat ln x1 x2 w3 w4 n_34 (0 : Int32) (v6_34 + (1 : Int32))) else (lo_Ref_lower_34 rf lat ln x1 x2 w3 w4 n_34 (1 : Int32) (v6_34 + (1 : Int32)))) else (lo_Ref_lower_34 rf lat ln x1 x2 w3 w4 n_34 (1 : Int32) (v6_34 + (1 : Int32)))))
def lo_Ref_lower_15 (rf : cr_S) (lat : Int64) (ln : (Nat → Int64)) (x1 : Int32) (x2 : Int32) : Nat → Int32 → Int32 → Int32
  | 0, _, _ => 0
  | n_15 + 1, v3_15, v4_15 =>
    (if (rf 0 0) < v4_15 then (0 : Int32) else (if x2 < 0 then (0 : Int32) else (if (lo_Ref_lower_34 rf lat ln x1 x2 v3_15 v4_15 9 (0 : Int32) (1 : Int32)) = 0 then (lo_Ref_lower_15 rf lat ln x1 x2 n_15 v3_15 (v4_15 + (1 : Int32))) else (if v3_15 = 0 then v4_15 else (lo_Ref_lower_15 rf lat ln x1 x2 n_15 (v3_15 + (-1 : Int32)) (v4_15 + (1 : Int32)))))))
def md_Ref_lower (rf : cr_S) (lat : Int64) (ln : (Nat → Int64)) (x1 : Int32) (x2 : Int32) : Int32 :=
  (if (md_Ref_isTask rf lat ln x1) = 0 then (-1 : Int32) else (lo_Ref_lower_15 rf lat ln x1 x2 11 x2 (1 : Int32)))
abbrev pq_Ref_lower (dC : Nat → ClassId) (dI : Nat → Nat → Nat) (cI cZ cJ : ClassId) (arf : Nat → Nat) (rf : cr_S) (lat : Int64) (ln : (Nat → Int64)) (x1 : Int32) (x2 : Int32) (A : Nat → Prop) : Array Value → State → Outcome → State → Prop :=
  va_Qi (fun (r : Int32) (_ : Unit) => r = md_Ref_lower rf lat ln x1 x2) (fun (_ : Unit) t => va_P (dC, dI) vwCl (cw_Ref cI cZ cJ arf rf lat ln) t.heap ∧ va_K (dC, dI) vwCl [(cI, .int), (cZ, .boolean), (cJ, .long)] t ∧ va_D A (cw_Ref cI cZ cJ arf rf lat ln)) A
set_option maxHeartbeats 4000000 in
set_option maxRecDepth 100000 in
theorem ct_Ref_lower (l : Launch) (dC : Nat → ClassId) (dI : Nat → Nat → Nat) (cI cZ cJ : ClassId) (arf : Nat → Nat) (sz : Nat) (rf : cr_S) (lat : Int64) (ln : (Nat → Int64)) (x1 : Int32) (x2 : Int32) (hR_rf : cr_RRef rf) : Met l ny_Ref_lower nw_Ref_lower ({ frames := 2, cells := 0, slots := 0, locals := 46 } : Room) (va_Pc [.ref (arf 0), .int x1, .int x2] (fun U => U.heap.size = sz ∧ va_P (dC, dI) vwCl (cw_Ref cI cZ cJ arf rf lat ln) U.heap ∧ va_K (dC, dI) vwCl [(cI, .int), (cZ, .boolean), (cJ, .long)] U ∧ va_D (fun _ => True) (cw_Ref cI cZ cJ arf rf lat ln))) (pq_Ref_lower dC dI cI cZ cJ arf rf lat ln x1 x2 (va_A (cw_Ref cI cZ cJ arf rf lat ln) sz)) 0 0 (va_A (cw_Ref cI cZ cJ arf rf lat ln) sz) := by
  refine Met.ofW (cc := prog_7_method_20_code) (maxL := 7) (ret := (some .int)) (by decide) rfl ?_
  intro p e s m args below meth c s₁ B hml hv
  obtain ⟨rfl, hsz, hP, hK, hD0⟩ := hv
  have hx := B.exec
  have hb := B.bytes
  have hr := B.returns
  have hts0 := atoms_spec (ws := nw_Ref_lower) B.pre
  have hts : ∀ w ∈ ng_tbl, w.before ([.ref (arf 0), .int x1, .int x2] : List Value).toArray s = true := fun w h => hts0 w (List.mem_cons_of_mem _ h)
  have hown : s.vm.findClass "CeilingRowsModel" = some m.cls := findClass_of_methodNamed B.named
  have hlocks := B.notSynchronized
  subst hsz
  have hD := hD0.self (sz := s.heap.size)
  generalize hAe : va_A (cw_Ref cI cZ cJ arf rf lat ln) s.heap.size = A at hD ⊢
  have hA : ∀ q : Nat, s.heap.size ≤ q → A q := fun q h => by rw [← hAe]; exact Or.inr h
  have hS : va_S A s.heap s.heap [] := va_S.rf
  have hP : va_P (dC, dI) vwCl (cw_Ref cI cZ cJ arf rf lat ln) s.heap := hP
  have hl := lv_entry ([.ref (arf 0), .int x1, .int x2]) (n := 7) (Nat.le_of_ble_eq_true rfl)
  rw [lg_entry_eq]
  generalize (lg_sl ([.ref (arf 0), .int x1, .int x2]) ++ List.replicate (7 - (lg_sl ([.ref (arf 0), .int x1, .int x2])).length) Slot.unset).toArray = ls at hl ⊢
  have hl : lv_has ls 7 [(0, .ref (arf 0)), (1, .int x1), (2, .int x2)] := hl
  have f0_rf_0 := cr_rfo hR_rf.1
  have f0_rf_1 := cr_rfo hR_rf.2.1
  have k_m1 : (-1 : Int32).toInt = -1 := by decide
  have k_0 : (0 : Int32).toInt = 0 := by decide
  have k_1 : (1 : Int32).toInt = 1 := by decide
  obtain ⟨tgt, hT⟩ : ∃ z, md_Ref_lower rf lat ln x1 x2 = z := ⟨_, rfl⟩
  have hM := hT
  unfold md_Ref_lower at hM
  refine lv_aload_n hx hb nd_Ref_lower_0 rfl (lv_at hl 0 rfl) ?_
  refine lv_iload_n hx hb nd_Ref_lower_1 rfl (lv_at hl 1 rfl) ?_
  have hPc := hP
  have hDc := hD
  have hFc := va_free (wc := cw_Ref cI cZ cJ arf rf lat ln) hD hS hA [0, 1, 2, 3, 4, 5, 6, 7, 8, 9, 10, 11, 12, 13, 14, 15, 16, 17] rfl
  refine va_calli (va_runV (As := [.int x1]) (rest := []) ⟨hx, hb, hml, hown, hts⟩ (ct_Ref_isTask l dC dI cI cZ cJ arf s.heap.size rf lat ln x1 hR_rf) (cwV 1 hts (ng_V tw_493 tw_495 tp_18 tw_6 tw_496) rfl rfl rfl (by decide +kernel) ⟨Nat.le_of_ble_eq_true rfl, Nat.le_of_ble_eq_true rfl⟩) ⟨fun a U g mk q => by obtain ⟨q0, q1, qP, qK, qD⟩ := q; exact ⟨q0, q1, qP, va_K.moved (u := U) (U := U.calling g mk a) (Vm.Alike.refl U.vm) qK, qD⟩, va_recv hK hPc (ci := 5) (q0 := 0) rfl rfl, fun U hU hW => ⟨rfl, by rw [hU], by rw [hU]; exact hPc, va_K.moved hW.alike hK, hDc.weaken (fun _ _ _ _ => trivial)⟩⟩ rfl rfl hl.1 rfl (lv_room (Nat.le_of_ble_eq_true rfl)) nd_Ref_lower_2 ⟨Nat.zero_le _, Nat.zero_le _⟩) hS (fun q _ h => hFc q h) hFc (fun r_1 u t H1 locs ht hvm hw hB hz1 hk1 hS => ?_)
  obtain ⟨hP1, hK1, hD1⟩ := hB
  rw [ht] at hP1
  obtain ⟨w_2, f_3⟩ := hw
  try rw [← w_2] at hM
  have hP := hP1
  have hD := cr_Dw hD1 hFc
  generalize H1 = H at hP hS ⊢
  refine lv_if_ne (tgt := 10) hx hb nd_Ref_lower_5 (by decide) (fun c_4 => ?_) (fun c_4 => ?_)
  · have c_4t := cr_ne c_4
    rw [if_neg c_4] at hM
    refine lv_iload_n hx hb nd_Ref_lower_10 rfl (lv_at hl 2 rfl) ?_
    refine lv_istore_n (lv' := [(3, .int x2), (0, .ref (arf 0)), (1, .int x1), (2, .int x2)]) hx hb nd_Ref_lower_11 rfl hl (by decide) rfl (fun ls hl => ?_)
    refine lv_iconst (v := 1) hx hb nd_Ref_lower_12 (by decide) ?_
    refine lv_istore (lv' := [(4, .int (1 : Int32)), (3, .int x2), (0, .ref (arf 0)), (1, .int x1), (2, .int x2)]) hx hb nd_Ref_lower_13 hl (by decide) rfl (fun ls hl => ?_)
    have hl := lv_sub hl [2, 3, 4, 1, 0] rfl
    have lp_15 : ∀ (n_15 : Nat) (v3_15 : Int32) (v4_15 : Int32), (1 ≤ v4_15.toInt ∧ v4_15.toInt ≤ 11) → (11 < v4_15.toInt + (n_15 : Int)) → lo_Ref_lower_15 rf lat ln x1 x2 n_15 v3_15 v4_15 = tgt → ∀ (H : Heap) (locs : List Loc), va_P (dC, dI) vwCl (cw_Ref cI cZ cJ arf rf lat ln) H → va_D A (cw_Ref cI cZ cJ arf rf lat ln) → va_S A s.heap H locs → ∀ ls : Array Slot, lv_has ls 7 [(0, .ref (arf 0)), (1, .int x1), (2, .int x2), (3, .int v3_15), (4, .int v4_15)] → W p l e (headSpec nw_Ref_lower ({ frames := 2, cells := 0, slots := 0, locals := 46 } : Room)).room s m ([.ref (arf 0), .int x1, .int x2] : List Value).toArray below meth c H locs 0 0 (MQ below (pq_Ref_lower dC dI cI cZ cJ arf rf lat ln x1 x2 A) ([.ref (arf 0), .int x1, .int x2] : List Value).toArray s 0 0 A) (F0 m 15 ls []) := by
      intro n_15
      induction n_15 with
      | zero =>
        intro v3_15 v4_15 hv4_15 hn_15
        exfalso; omega
      | succ n_15 ih_15 =>
        intro v3_15 v4_15 hv4_15 hn_15 hM H locs hP hD hS ls hl
        have hn_15 : 11 < v4_15.toInt + ((n_15 : Int) + 1) := by omega
        rw [lo_Ref_lower_15] at hM
        refine lv_iload hx hb nd_Ref_lower_15 (lv_at hl 4 rfl) ?_
        refine lv_aload_n hx hb nd_Ref_lower_17 rfl (lv_at hl 0 rfl) ?_
        refine va_get (D := (dC, dI)) (ci := 5) (v := .int (rf 0 0)) (C := "CeilingRowsModel") (T := nf_Ref) (N := 22) hx hb hts nin_Ref hown hK hP 0 rfl rfl 0 (by decide) (hts _ tw_413) (fun _ h9 => h9) rfl nd_Ref_lower_18 ?_
        have f_5 := cr_rfo hR_rf.1
        refine lv_icmp_gt (tgt := 97) hx hb nd_Ref_lower_21 (by decide) (fun c_6 => ?_) (fun c_6 => ?_)
        · have c_6t := cr_lt c_6
          rw [if_pos c_6] at hM
          refine lv_iconst (v := 0) hx hb nd_Ref_lower_97 (by decide) ?_
          exact W.iret (v := (0 : Int32)) hx hb hr (fun t ht hW => ⟨⟨(0 : Int32), (), rfl, by rw [hT, ← hM], by rw [ht]; exact hP, va_K.moved hW.alike hK, hD⟩, hS.F ht⟩) hS.2.2 nd_Ref_lower_98
        · have c_6t := cr_nlt c_6
          rw [if_neg c_6] at hM
          refine lv_iload_n hx hb nd_Ref_lower_24 rfl (lv_at hl 2 rfl) ?_
          refine lv_if_lt (tgt := 97) hx hb nd_Ref_lower_25 (by decide) (fun c_7 => ?_) (fun c_7 => ?_)
          · have c_7t := cr_lt c_7
            rw [if_pos c_7] at hM
            refine lv_iconst (v := 0) hx hb nd_Ref_lower_97 (by decide) ?_
            exact W.iret (v := (0 : Int32)) hx hb hr (fun t ht hW => ⟨⟨(0 : Int32), (), rfl, by rw [hT, ← hM], by rw [ht]; exact hP, va_K.moved hW.alike hK, hD⟩, hS.F ht⟩) hS.2.2 nd_Ref_lower_98
          · have c_7t := cr_nlt c_7
            rw [if_neg c_7] at hM
            refine lv_iconst (v := 0) hx hb nd_Ref_lower_28 (by decide) ?_
            refine lv_istore (lv' := [(5, .int (0 : Int32)), (0, .ref (arf 0)), (1, .int x1), (2, .int x2), (3, .int v3_15), (4, .int v4_15)]) hx hb nd_Ref_lower_29 hl (by decide) rfl (fun ls hl => ?_)
            refine lv_iconst (v := 1) hx hb nd_Ref_lower_31 (by decide) ?_
            refine lv_istore (lv' := [(6, .int (1 : Int32)), (5, .int (0 : Int32)), (0, .ref (arf 0)), (1, .int x1), (2, .int x2), (3, .int v3_15), (4, .int v4_15)]) hx hb nd_Ref_lower_32 hl (by decide) rfl (fun ls hl => ?_)
            have hl := lv_sub hl [2, 3, 4, 5, 6, 1, 0] rfl
            obtain ⟨ti_34, hti_34⟩ : ∃ z, lo_Ref_lower_34 rf lat ln x1 x2 v3_15 v4_15 9 (0 : Int32) (1 : Int32) = z := ⟨_, rfl⟩
            try rw [hti_34] at hM
            have hex_34 : ∀ (H : Heap) (locs : List Loc), va_P (dC, dI) vwCl (cw_Ref cI cZ cJ arf rf lat ln) H → va_D A (cw_Ref cI cZ cJ arf rf lat ln) → va_S A s.heap H locs → ∀ ls : Array Slot, lv_has ls 7 [(0, .ref (arf 0)), (1, .int x1), (2, .int x2), (3, .int v3_15), (4, .int v4_15), (5, .int ti_34)] → W p l e (headSpec nw_Ref_lower ({ frames := 2, cells := 0, slots := 0, locals := 46 } : Room)).room s m ([.ref (arf 0), .int x1, .int x2] : List Value).toArray below meth c H locs 0 0 (MQ below (pq_Ref_lower dC dI cI cZ cJ arf rf lat ln x1 x2 A) ([.ref (arf 0), .int x1, .int x2] : List Value).toArray s 0 0 A) (F0 m 73 ls []) := by
              intro  H locs hP hD hS ls hl
              refine lv_iload hx hb nd_Ref_lower_73 (lv_at hl 5 rfl) ?_
              refine lv_if_ne (tgt := 81) hx hb nd_Ref_lower_75 (by decide) (fun c_8 => ?_) (fun c_8 => ?_)
              · have c_8t := cr_ne c_8
                rw [if_neg c_8] at hM
                refine lv_iload_n hx hb nd_Ref_lower_81 rfl (lv_at hl 3 rfl) ?_
                refine lv_if_ne (tgt := 88) hx hb nd_Ref_lower_82 (by decide) (fun c_9 => ?_) (fun c_9 => ?_)
                · have c_9t := cr_ne c_9
                  rw [if_neg c_9] at hM
                  refine lv_iinc (v := (v3_15 + (-1 : Int32))) (lv' := [(3, .int (v3_15 + (-1 : Int32))), (0, .ref (arf 0)), (1, .int x1), (2, .int x2), (4, .int v4_15), (5, .int ti_34)]) hx hb nd_Ref_lower_88 hl (k := 3) rfl (by rfl) (by decide) rfl (fun ls hl => ?_)
                  have e_10 : (v4_15 + (1 : Int32)).toInt = v4_15.toInt + (1 : Int32).toInt := cr_add (by omega)
                  refine lv_iinc (v := (v4_15 + (1 : Int32))) (lv' := [(4, .int (v4_15 + (1 : Int32))), (3, .int (v3_15 + (-1 : Int32))), (0, .ref (arf 0)), (1, .int x1), (2, .int x2), (5, .int ti_34)]) hx hb nd_Ref_lower_91 hl (k := 4) rfl (by rfl) (by decide) rfl (fun ls hl => ?_)
                  refine lv_goto (tgt := 15) hx hb nd_Ref_lower_94 (by decide) ?_
                  exact ih_15 (v3_15 + (-1 : Int32)) (v4_15 + (1 : Int32)) (by omega) (by omega) hM _ _ hP hD hS _ (lv_sub hl [2, 3, 4, 1, 0] rfl)
                · have c_9t := cr_eq c_9
                  rw [if_pos c_9] at hM
                  refine lv_iload hx hb nd_Ref_lower_85 (lv_at hl 4 rfl) ?_
                  exact W.iret (v := v4_15) hx hb hr (fun t ht hW => ⟨⟨v4_15, (), rfl, by rw [hT, ← hM], by rw [ht]; exact hP, va_K.moved hW.alike hK, hD⟩, hS.F ht⟩) hS.2.2 nd_Ref_lower_87
              · have c_8t := cr_eq c_8
                rw [if_pos c_8] at hM
                refine lv_goto (tgt := 91) hx hb nd_Ref_lower_78 (by decide) ?_
                have e_11 : (v4_15 + (1 : Int32)).toInt = v4_15.toInt + (1 : Int32).toInt := cr_add (by omega)
                refine lv_iinc (v := (v4_15 + (1 : Int32))) (lv' := [(4, .int (v4_15 + (1 : Int32))), (0, .ref (arf 0)), (1, .int x1), (2, .int x2), (3, .int v3_15), (5, .int ti_34)]) hx hb nd_Ref_lower_91 hl (k := 4) rfl (by rfl) (by decide) rfl (fun ls hl => ?_)
                refine lv_goto (tgt := 15) hx hb nd_Ref_lower_94 (by decide) ?_
                exact ih_15 v3_15 (v4_15 + (1 : Int32)) (by omega) (by omega) hM _ _ hP hD hS _ (lv_sub hl [1, 2, 3, 4, 0] rfl)
            have lp_34 : ∀ (n_34 : Nat) (v5_34 : Int32) (v6_34 : Int32), (1 ≤ v6_34.toInt ∧ v6_34.toInt ≤ 9) → (9 < v6_34.toInt + (n_34 : Int)) → lo_Ref_lower_34 rf lat ln x1 x2 v3_15 v4_15 n_34 v5_34 v6_34 = ti_34 → ∀ (H : Heap) (locs : List Loc), va_P (dC, dI) vwCl (cw_Ref cI cZ cJ arf rf lat ln) H → va_D A (cw_Ref cI cZ cJ arf rf lat ln) → va_S A s.heap H locs → ∀ ls : Array Slot, lv_has ls 7 [(0, .ref (arf 0)), (1, .int x1), (2, .int x2), (3, .int v3_15), (4, .int v4_15), (5, .int v5_34), (6, .int v6_34)] → W p l e (headSpec nw_Ref_lower ({ frames := 2, cells := 0, slots := 0, locals := 46 } : Room)).room s m ([.ref (arf 0), .int x1, .int x2] : List Value).toArray below meth c H locs 0 0 (MQ below (pq_Ref_lower dC dI cI cZ cJ arf rf lat ln x1 x2 A) ([.ref (arf 0), .int x1, .int x2] : List Value).toArray s 0 0 A) (F0 m 34 ls []) := by
              try clear hM
              intro n_34
              induction n_34 with
              | zero =>
                intro v5_34 v6_34 hv6_34 hn_34
                exfalso; omega
              | succ n_34 ih_34 =>
                intro v5_34 v6_34 hv6_34 hn_34 hM H locs hP hD hS ls hl
                have hn_34 : 9 < v6_34.toInt + ((n_34 : Int) + 1) := by omega
                rw [lo_Ref_lower_34] at hM
                refine lv_iload hx hb nd_Ref_lower_34 (lv_at hl 6 rfl) ?_
                refine lv_aload_n hx hb nd_Ref_lower_36 rfl (lv_at hl 0 rfl) ?_
                refine va_get (D := (dC, dI)) (ci := 5) (v := .int (rf 0 2)) (C := "CeilingRowsModel") (T := nf_Ref) (N := 22) hx hb hts nin_Ref hown hK hP 0 rfl rfl 7 (by decide) (hts _ tw_420) (fun _ h9 => h9) rfl nd_Ref_lower_37 ?_
                have f_12 := cr_rfo hR_rf.2.1
                refine lv_icmp_gt (tgt := 73) hx hb nd_Ref_lower_40 (by decide) (fun c_13 => ?_) (fun c_13 => ?_)
                · have c_13t := cr_lt c_13
                  rw [if_pos c_13] at hM
                  subst hM
                  exact hex_34  _ _ hP hD hS _ (lv_sub hl [0, 1, 2, 3, 4, 5] rfl)
                · have c_13t := cr_nlt c_13
                  rw [if_neg c_13] at hM
                  refine lv_iload hx hb nd_Ref_lower_43 (lv_at hl 5 rfl) ?_
                  refine lv_if_ne (tgt := 60) hx hb nd_Ref_lower_45 (by decide) (fun c_14 => ?_) (fun c_14 => ?_)
                  · have c_14t := cr_ne c_14
                    rw [if_neg c_14] at hM
                    refine lv_iconst (v := 1) hx hb nd_Ref_lower_60 (by decide) ?_
                    refine lv_goto (tgt := 65) hx hb nd_Ref_lower_61 (by decide) ?_
                    refine lv_istore (lv' := [(5, .int (1 : Int32)), (0, .ref (arf 0)), (1, .int x1), (2, .int x2), (3, .int v3_15), (4, .int v4_15), (6, .int v6_34)]) hx hb nd_Ref_lower_65 hl (by decide) rfl (fun ls hl => ?_)
                    have e_15 : (v6_34 + (1 : Int32)).toInt = v6_34.toInt + (1 : Int32).toInt := cr_add (by omega)
                    refine lv_iinc (v := (v6_34 + (1 : Int32))) (lv' := [(6, .int (v6_34 + (1 : Int32))), (5, .int (1 : Int32)), (0, .ref (arf 0)), (1, .int x1), (2, .int x2), (3, .int v3_15), (4, .int v4_15)]) hx hb nd_Ref_lower_67 hl (k := 6) rfl (by rfl) (by decide) rfl (fun ls hl => ?_)
                    refine lv_goto (tgt := 34) hx hb nd_Ref_lower_70 (by decide) ?_
                    exact ih_34 (1 : Int32) (v6_34 + (1 : Int32)) (by omega) (by omega) hM _ _ hP hD hS _ (lv_sub hl [2, 3, 4, 5, 6, 1, 0] rfl)
                  · have c_14t := cr_eq c_14
                    rw [if_pos c_14] at hM
                    refine lv_aload_n hx hb nd_Ref_lower_48 rfl (lv_at hl 0 rfl) ?_
                    refine lv_iload hx hb nd_Ref_lower_49 (lv_at hl 4 rfl) ?_
                    refine lv_iload_n hx hb nd_Ref_lower_51 rfl (lv_at hl 1 rfl) ?_
                    refine lv_iload hx hb nd_Ref_lower_52 (lv_at hl 6 rfl) ?_
                    have hPc := hP
                    have hDc := hD
                    have hFc := va_free (wc := cw_Ref cI cZ cJ arf rf lat ln) hD hS hA [0, 1, 2, 3, 4, 5, 6, 7, 8, 9, 10, 11, 12, 13, 14, 15, 16, 17] rfl
                    refine va_calli (va_runV (As := [.int v4_15, .int x1, .int v6_34]) (rest := []) ⟨hx, hb, hml, hown, hts⟩ (ct_Ref_mayKeep l dC dI cI cZ cJ arf H.size rf lat ln v4_15 x1 v6_34 hR_rf (by omega) (by omega) (by omega)) (cwV 3 hts (ng_V tw_552 tw_554 tp_27 tw_6 tw_555) rfl rfl rfl (by decide +kernel) ⟨Nat.le_of_ble_eq_true rfl, Nat.le_of_ble_eq_true rfl⟩) ⟨fun a U g mk q => by obtain ⟨q0, q1, qP, qK, qD⟩ := q; exact ⟨q0, q1, qP, va_K.moved (u := U) (U := U.calling g mk a) (Vm.Alike.refl U.vm) qK, qD⟩, va_recv hK hPc (ci := 5) (q0 := 0) rfl rfl, fun U hU hW => ⟨rfl, by rw [hU], by rw [hU]; exact hPc, va_K.moved hW.alike hK, hDc.weaken (fun _ _ _ _ => trivial)⟩⟩ rfl rfl hl.1 rfl (lv_room (Nat.le_of_ble_eq_true rfl)) nd_Ref_lower_54 ⟨Nat.zero_le _, Nat.zero_le _⟩) hS (fun q _ h => hFc q h) hFc (fun r_16 u t H1 locs ht hvm hw hB hz1 hk1 hS => ?_)
                    obtain ⟨hP1, hK1, hD1⟩ := hB
                    rw [ht] at hP1
                    have w_17 := hw
                    try rw [← w_17] at hM
                    have hP := hP1
                    have hD := cr_Dw hD1 hFc
                    generalize H1 = H at hP hS ⊢
                    refine lv_if_eq (tgt := 64) hx hb nd_Ref_lower_57 (by decide) (fun c_18 => ?_) (fun c_18 => ?_)
                    · have c_18t := cr_eq c_18
                      rw [if_pos c_18] at hM
                      refine lv_iconst (v := 0) hx hb nd_Ref_lower_64 (by decide) ?_
                      refine lv_istore (lv' := [(5, .int (0 : Int32)), (0, .ref (arf 0)), (1, .int x1), (2, .int x2), (3, .int v3_15), (4, .int v4_15), (6, .int v6_34)]) hx hb nd_Ref_lower_65 hl (by decide) rfl (fun ls hl => ?_)
                      have e_19 : (v6_34 + (1 : Int32)).toInt = v6_34.toInt + (1 : Int32).toInt := cr_add (by omega)
                      refine lv_iinc (v := (v6_34 + (1 : Int32))) (lv' := [(6, .int (v6_34 + (1 : Int32))), (5, .int (0 : Int32)), (0, .ref (arf 0)), (1, .int x1), (2, .int x2), (3, .int v3_15), (4, .int v4_15)]) hx hb nd_Ref_lower_67 hl (k := 6) rfl (by rfl) (by decide) rfl (fun ls hl => ?_)
                      refine lv_goto (tgt := 34) hx hb nd_Ref_lower_70 (by decide) ?_
                      exact ih_34 (0 : Int32) (v6_34 + (1 : Int32)) (by omega) (by omega) hM _ _ hP hD hS _ (lv_sub hl [2, 3, 4, 5, 6, 1, 0] rfl)
                    · have c_18t := cr_ne c_18
                      rw [if_neg c_18] at hM
                      refine lv_iconst (v := 1) hx hb nd_Ref_lower_60 (by decide) ?_
                      refine lv_goto (tgt := 65) hx hb nd_Ref_lower_61 (by decide) ?_
                      refine lv_istore (lv' := [(5, .int (1 : Int32)), (0, .ref (arf 0)), (1, .int x1), (2, .int x2), (3, .int v3_15), (4, .int v4_15), (6, .int v6_34)]) hx hb nd_Ref_lower_65 hl (by decide) rfl (fun ls hl => ?_)
                      have e_20 : (v6_34 + (1 : Int32)).toInt = v6_34.toInt + (1 : Int32).toInt := cr_add (by omega)
                      refine lv_iinc (v := (v6_34 + (1 : Int32))) (lv' := [(6, .int (v6_34 + (1 : Int32))), (5, .int (1 : Int32)), (0, .ref (arf 0)), (1, .int x1), (2, .int x2), (3, .int v3_15), (4, .int v4_15)]) hx hb nd_Ref_lower_67 hl (k := 6) rfl (by rfl) (by decide) rfl (fun ls hl => ?_)
                      refine lv_goto (tgt := 34) hx hb nd_Ref_lower_70 (by decide) ?_
                      exact ih_34 (1 : Int32) (v6_34 + (1 : Int32)) (by omega) (by omega) hM _ _ hP hD hS _ (lv_sub hl [2, 3, 4, 5, 6, 1, 0] rfl)
            exact lp_34 9 (0 : Int32) (1 : Int32) (by omega) (by omega) hti_34 _ _ hP hD hS _ hl
    exact lp_15 11 x2 (1 : Int32) (by omega) (by omega) hM _ _ hP hD hS _ hl
  · have c_4t := cr_eq c_4
    rw [if_pos c_4] at hM
    refine lv_iconst (v := -1) hx hb nd_Ref_lower_8 (by decide) ?_
    exact W.iret (v := (-1 : Int32)) hx hb hr (fun t ht hW => ⟨⟨(-1 : Int32), (), rfl, by rw [hT, ← hM], by rw [ht]; exact hP, va_K.moved hW.alike hK, hD⟩, hS.F ht⟩) hS.2.2 nd_Ref_lower_9

theorem nd_Ref_lastLock_0 : decode prog_7_method_21_code 0 = .ok (.iconst 0, 1) := by decide +kernel
theorem nd_Ref_lastLock_1 : decode prog_7_method_21_code 1 = .ok (.istore_n 2, 1) := by decide +kernel
theorem nd_Ref_lastLock_2 : decode prog_7_method_21_code 2 = .ok (.iconst 1, 1) := by decide +kernel
theorem nd_Ref_lastLock_3 : decode prog_7_method_21_code 3 = .ok (.istore_n 3, 1) := by decide +kernel
theorem nd_Ref_lastLock_4 : decode prog_7_method_21_code 4 = .ok (.iload_n 3, 1) := by decide +kernel
theorem nd_Ref_lastLock_5 : decode prog_7_method_21_code 5 = .ok (.bipush 9, 2) := by decide +kernel
theorem nd_Ref_lastLock_7 : decode prog_7_method_21_code 7 = .ok (.if_icmp .ge (40), 3) := by decide +kernel
theorem nd_Ref_lastLock_10 : decode prog_7_method_21_code 10 = .ok (.aload_n 0, 1) := by decide +kernel
theorem nd_Ref_lastLock_11 : decode prog_7_method_21_code 11 = .ok (.getfield 36, 3) := by decide +kernel
theorem nd_Ref_lastLock_14 : decode prog_7_method_21_code 14 = .ok (.iload_n 3, 1) := by decide +kernel
theorem nd_Ref_lastLock_15 : decode prog_7_method_21_code 15 = .ok (.iaload, 1) := by decide +kernel
theorem nd_Ref_lastLock_16 : decode prog_7_method_21_code 16 = .ok (.iload_n 1, 1) := by decide +kernel
theorem nd_Ref_lastLock_17 : decode prog_7_method_21_code 17 = .ok (.if_icmp .ne (24), 3) := by decide +kernel
theorem nd_Ref_lastLock_20 : decode prog_7_method_21_code 20 = .ok (.iload_n 2, 1) := by decide +kernel
theorem nd_Ref_lastLock_21 : decode prog_7_method_21_code 21 = .ok (.ifCond .eq (18), 3) := by decide +kernel
theorem nd_Ref_lastLock_24 : decode prog_7_method_21_code 24 = .ok (.aload_n 0, 1) := by decide +kernel
theorem nd_Ref_lastLock_25 : decode prog_7_method_21_code 25 = .ok (.getfield 39, 3) := by decide +kernel
theorem nd_Ref_lastLock_28 : decode prog_7_method_21_code 28 = .ok (.iload_n 3, 1) := by decide +kernel
theorem nd_Ref_lastLock_29 : decode prog_7_method_21_code 29 = .ok (.iaload, 1) := by decide +kernel
theorem nd_Ref_lastLock_30 : decode prog_7_method_21_code 30 = .ok (.aload_n 0, 1) := by decide +kernel
theorem nd_Ref_lastLock_31 : decode prog_7_method_21_code 31 = .ok (.getfield 39, 3) := by decide +kernel
theorem nd_Ref_lastLock_34 : decode prog_7_method_21_code 34 = .ok (.iload_n 2, 1) := by decide +kernel
theorem nd_Ref_lastLock_35 : decode prog_7_method_21_code 35 = .ok (.iaload, 1) := by decide +kernel
theorem nd_Ref_lastLock_36 : decode prog_7_method_21_code 36 = .ok (.if_icmp .le (5), 3) := by decide +kernel
theorem nd_Ref_lastLock_39 : decode prog_7_method_21_code 39 = .ok (.iload_n 3, 1) := by decide +kernel
theorem nd_Ref_lastLock_40 : decode prog_7_method_21_code 40 = .ok (.istore_n 2, 1) := by decide +kernel
theorem nd_Ref_lastLock_41 : decode prog_7_method_21_code 41 = .ok (.iinc 3 1, 3) := by decide +kernel
theorem nd_Ref_lastLock_44 : decode prog_7_method_21_code 44 = .ok (.goto (-40), 3) := by decide +kernel
theorem nd_Ref_lastLock_47 : decode prog_7_method_21_code 47 = .ok (.iload_n 2, 1) := by decide +kernel
theorem nd_Ref_lastLock_48 : decode prog_7_method_21_code 48 = .ok (.ireturn, 1) := by decide +kernel
def lo_Ref_lastLock_4 (rf : cr_S) (lat : Int64) (ln : (Nat → Int64)) (x1 : Int32) : Nat → Int32 → Int32 → Int32
  | 0, _, _ => 0
  | n_4 + 1, v2_4, v3_4 =>
    (if (9 : Int32) ≤ v3_4 then v2_4 else (if (rf 9 v3_4.toNatClampNeg) = x1 then (if v2_4 = 0 then (lo_Ref_lastLock_4 rf lat ln x1 n_4 v3_4 (v3_4 + (1 : Int32))) else (if (rf 10 v3_4.toNatClampNeg) ≤ (rf 10 v2_4.toNatClampNeg) then (lo_Ref_lastLock_4 rf lat ln x1 n_4 v2_4 (v3_4 + (1 : Int32))) else (lo_Ref_lastLock_4 rf lat ln x1 n_4 v3_4 (v3_4 + (1 : Int32))))) else (lo_Ref_lastLock_4 rf lat ln x1 n_4 v2_4 (v3_4 + (1 : Int32)))))
def md_Ref_lastLock (rf : cr_S) (lat : Int64) (ln : (Nat → Int64)) (x1 : Int32) : Int32 :=
  (lo_Ref_lastLock_4 rf lat ln x1 9 (0 : Int32) (1 : Int32))
abbrev pq_Ref_lastLock (dC : Nat → ClassId) (dI : Nat → Nat → Nat) (cI cZ cJ : ClassId) (arf : Nat → Nat) (rf : cr_S) (lat : Int64) (ln : (Nat → Int64)) (x1 : Int32) (A : Nat → Prop) : Array Value → State → Outcome → State → Prop :=
  va_Qi (fun (r : Int32) (_ : Unit) => r = md_Ref_lastLock rf lat ln x1 ∧ (0 ≤ r.toInt ∧ r.toInt ≤ 8)) (fun (_ : Unit) t => va_P (dC, dI) vwCl (cw_Ref cI cZ cJ arf rf lat ln) t.heap ∧ va_K (dC, dI) vwCl [(cI, .int), (cZ, .boolean), (cJ, .long)] t ∧ va_D A (cw_Ref cI cZ cJ arf rf lat ln)) A
set_option maxHeartbeats 4000000 in
set_option maxRecDepth 100000 in
theorem ct_Ref_lastLock (l : Launch) (dC : Nat → ClassId) (dI : Nat → Nat → Nat) (cI cZ cJ : ClassId) (arf : Nat → Nat) (sz : Nat) (rf : cr_S) (lat : Int64) (ln : (Nat → Int64)) (x1 : Int32) (hR_rf : cr_RRef rf) : Met l ny_Ref_lastLock nw_Ref_lastLock ({ frames := 0, cells := 0, slots := 0, locals := 0 } : Room) (va_Pc [.ref (arf 0), .int x1] (fun U => U.heap.size = sz ∧ va_P (dC, dI) vwCl (cw_Ref cI cZ cJ arf rf lat ln) U.heap ∧ va_K (dC, dI) vwCl [(cI, .int), (cZ, .boolean), (cJ, .long)] U ∧ va_D (fun _ => True) (cw_Ref cI cZ cJ arf rf lat ln))) (pq_Ref_lastLock dC dI cI cZ cJ arf rf lat ln x1 (va_A (cw_Ref cI cZ cJ arf rf lat ln) sz)) 0 0 (va_A (cw_Ref cI cZ cJ arf rf lat ln) sz) := by
  refine Met.ofW (cc := prog_7_method_21_code) (maxL := 4) (ret := (some .int)) (by decide) rfl ?_
  intro p e s m args below meth c s₁ B hml hv
  obtain ⟨rfl, hsz, hP, hK, hD0⟩ := hv
  have hx := B.exec
  have hb := B.bytes
  have hr := B.returns
  have hts0 := atoms_spec (ws := nw_Ref_lastLock) B.pre
  have hts : ∀ w ∈ ng_tbl, w.before ([.ref (arf 0), .int x1] : List Value).toArray s = true := fun w h => hts0 w (List.mem_cons_of_mem _ h)
  have hown : s.vm.findClass "CeilingRowsModel" = some m.cls := findClass_of_methodNamed B.named
  have hlocks := B.notSynchronized
  subst hsz
  have hD := hD0.self (sz := s.heap.size)
  generalize hAe : va_A (cw_Ref cI cZ cJ arf rf lat ln) s.heap.size = A at hD ⊢
  have hA : ∀ q : Nat, s.heap.size ≤ q → A q := fun q h => by rw [← hAe]; exact Or.inr h
  have hS : va_S A s.heap s.heap [] := va_S.rf
  have hP : va_P (dC, dI) vwCl (cw_Ref cI cZ cJ arf rf lat ln) s.heap := hP
  have hl := lv_entry ([.ref (arf 0), .int x1]) (n := 4) (Nat.le_of_ble_eq_true rfl)
  rw [lg_entry_eq]
  generalize (lg_sl ([.ref (arf 0), .int x1]) ++ List.replicate (4 - (lg_sl ([.ref (arf 0), .int x1])).length) Slot.unset).toArray = ls at hl ⊢
  have hl : lv_has ls 4 [(0, .ref (arf 0)), (1, .int x1)] := hl
  have f0_rf_0 := cr_rfo hR_rf.1
  have f0_rf_1 := cr_rfo hR_rf.2.1
  have k_0 : (0 : Int32).toInt = 0 := by decide
  have k_1 : (1 : Int32).toInt = 1 := by decide
  have k_9 : (9 : Int32).toInt = 9 := by decide
  obtain ⟨tgt, hT⟩ : ∃ z, md_Ref_lastLock rf lat ln x1 = z := ⟨_, rfl⟩
  have hM := hT
  unfold md_Ref_lastLock at hM
  refine lv_iconst (v := 0) hx hb nd_Ref_lastLock_0 (by decide) ?_
  refine lv_istore_n (lv' := [(2, .int (0 : Int32)), (0, .ref (arf 0)), (1, .int x1)]) hx hb nd_Ref_lastLock_1 rfl hl (by decide) rfl (fun ls hl => ?_)
  refine lv_iconst (v := 1) hx hb nd_Ref_lastLock_2 (by decide) ?_
  refine lv_istore_n (lv' := [(3, .int (1 : Int32)), (2, .int (0 : Int32)), (0, .ref (arf 0)), (1, .int x1)]) hx hb nd_Ref_lastLock_3 rfl hl (by decide) rfl (fun ls hl => ?_)
  have hl := lv_sub hl [2, 3, 1, 0] rfl
  have lp_4 : ∀ (n_4 : Nat) (v2_4 : Int32) (v3_4 : Int32), (1 ≤ v3_4.toInt ∧ v3_4.toInt ≤ 9) → (0 ≤ v2_4.toInt ∧ v2_4.toInt ≤ 8) → (9 < v3_4.toInt + (n_4 : Int)) → lo_Ref_lastLock_4 rf lat ln x1 n_4 v2_4 v3_4 = tgt → ∀ (H : Heap) (locs : List Loc), va_P (dC, dI) vwCl (cw_Ref cI cZ cJ arf rf lat ln) H → va_D A (cw_Ref cI cZ cJ arf rf lat ln) → va_S A s.heap H locs → ∀ ls : Array Slot, lv_has ls 4 [(0, .ref (arf 0)), (1, .int x1), (2, .int v2_4), (3, .int v3_4)] → W p l e (headSpec nw_Ref_lastLock ({ frames := 0, cells := 0, slots := 0, locals := 0 } : Room)).room s m ([.ref (arf 0), .int x1] : List Value).toArray below meth c H locs 0 0 (MQ below (pq_Ref_lastLock dC dI cI cZ cJ arf rf lat ln x1 A) ([.ref (arf 0), .int x1] : List Value).toArray s 0 0 A) (F0 m 4 ls []) := by
    intro n_4
    induction n_4 with
    | zero =>
      intro v2_4 v3_4 hv3_4 hv2_4 hn_4
      exfalso; omega
    | succ n_4 ih_4 =>
      intro v2_4 v3_4 hv3_4 hv2_4 hn_4 hM H locs hP hD hS ls hl
      have hn_4 : 9 < v3_4.toInt + ((n_4 : Int) + 1) := by omega
      rw [lo_Ref_lastLock_4] at hM
      refine lv_iload_n hx hb nd_Ref_lastLock_4 rfl (lv_at hl 3 rfl) ?_
      refine lv_bipush (v := 9) hx hb nd_Ref_lastLock_5 (by decide) ?_
      refine lv_icmp_ge (tgt := 47) hx hb nd_Ref_lastLock_7 (by decide) (fun c_1 => ?_) (fun c_1 => ?_)
      · have c_1t := cr_le c_1
        rw [if_pos c_1] at hM
        refine lv_iload_n hx hb nd_Ref_lastLock_47 rfl (lv_at hl 2 rfl) ?_
        exact W.iret (v := v2_4) hx hb hr (fun t ht hW => ⟨⟨v2_4, (), rfl, ⟨by rw [hT, ← hM], by omega⟩, by rw [ht]; exact hP, va_K.moved hW.alike hK, hD⟩, hS.F ht⟩) hS.2.2 nd_Ref_lastLock_48
      · have c_1t := cr_nle c_1
        rw [if_neg c_1] at hM
        refine lv_aload_n hx hb nd_Ref_lastLock_10 rfl (lv_at hl 0 rfl) ?_
        refine va_get (D := (dC, dI)) (ci := 5) (v := .ref (arf 9)) (C := "CeilingRowsModel") (T := nf_Ref) (N := 22) hx hb hts nin_Ref hown hK hP 0 rfl rfl 12 (by decide) (hts _ tw_425) (fun _ h9 => h9) rfl nd_Ref_lastLock_11 ?_
        refine lv_iload_n hx hb nd_Ref_lastLock_14 rfl (lv_at hl 3 rfl) ?_
        have b_2 : vp_in v3_4 9 := vp_in_iff.mpr (by omega)
        refine va_iald hx hb hK hP 9 0 rfl rfl b_2 nd_Ref_lastLock_15 ?_
        have f_3 := cr_rgo hR_rf.2.2.2.1 (v3_4.toNatClampNeg)
        refine lv_iload_n hx hb nd_Ref_lastLock_16 rfl (lv_at hl 1 rfl) ?_
        refine lv_icmp_ne (tgt := 41) hx hb nd_Ref_lastLock_17 (by decide) (fun c_4 => ?_) (fun c_4 => ?_)
        · have c_4t := cr_ne c_4
          rw [if_neg c_4] at hM
          have e_5 : (v3_4 + (1 : Int32)).toInt = v3_4.toInt + (1 : Int32).toInt := cr_add (by omega)
          refine lv_iinc (v := (v3_4 + (1 : Int32))) (lv' := [(3, .int (v3_4 + (1 : Int32))), (0, .ref (arf 0)), (1, .int x1), (2, .int v2_4)]) hx hb nd_Ref_lastLock_41 hl (k := 3) rfl (by rfl) (by decide) rfl (fun ls hl => ?_)
          refine lv_goto (tgt := 4) hx hb nd_Ref_lastLock_44 (by decide) ?_
          exact ih_4 v2_4 (v3_4 + (1 : Int32)) (by omega) (by omega) (by omega) hM _ _ hP hD hS _ (lv_sub hl [1, 2, 3, 0] rfl)
        · have c_4t := cr_eq c_4
          rw [if_pos c_4] at hM
          refine lv_iload_n hx hb nd_Ref_lastLock_20 rfl (lv_at hl 2 rfl) ?_
          refine lv_if_eq (tgt := 39) hx hb nd_Ref_lastLock_21 (by decide) (fun c_6 => ?_) (fun c_6 => ?_)
          · have c_6t := cr_eq c_6
            rw [if_pos c_6] at hM
            refine lv_iload_n hx hb nd_Ref_lastLock_39 rfl (lv_at hl 3 rfl) ?_
            refine lv_istore_n (lv' := [(2, .int v3_4), (0, .ref (arf 0)), (1, .int x1), (3, .int v3_4)]) hx hb nd_Ref_lastLock_40 rfl hl (by decide) rfl (fun ls hl => ?_)
            have e_7 : (v3_4 + (1 : Int32)).toInt = v3_4.toInt + (1 : Int32).toInt := cr_add (by omega)
            refine lv_iinc (v := (v3_4 + (1 : Int32))) (lv' := [(3, .int (v3_4 + (1 : Int32))), (2, .int v3_4), (0, .ref (arf 0)), (1, .int x1)]) hx hb nd_Ref_lastLock_41 hl (k := 3) rfl (by rfl) (by decide) rfl (fun ls hl => ?_)
            refine lv_goto (tgt := 4) hx hb nd_Ref_lastLock_44 (by decide) ?_
            exact ih_4 v3_4 (v3_4 + (1 : Int32)) (by omega) (by omega) (by omega) hM _ _ hP hD hS _ (lv_sub hl [2, 3, 1, 0] rfl)
          · have c_6t := cr_ne c_6
            rw [if_neg c_6] at hM
            refine lv_aload_n hx hb nd_Ref_lastLock_24 rfl (lv_at hl 0 rfl) ?_
            refine va_get (D := (dC, dI)) (ci := 5) (v := .ref (arf 10)) (C := "CeilingRowsModel") (T := nf_Ref) (N := 22) hx hb hts nin_Ref hown hK hP 0 rfl rfl 13 (by decide) (hts _ tw_426) (fun _ h9 => h9) rfl nd_Ref_lastLock_25 ?_
            refine lv_iload_n hx hb nd_Ref_lastLock_28 rfl (lv_at hl 3 rfl) ?_
            have b_8 : vp_in v3_4 9 := vp_in_iff.mpr (by omega)
            refine va_iald hx hb hK hP 10 0 rfl rfl b_8 nd_Ref_lastLock_29 ?_
            refine lv_aload_n hx hb nd_Ref_lastLock_30 rfl (lv_at hl 0 rfl) ?_
            refine va_get (D := (dC, dI)) (ci := 5) (v := .ref (arf 10)) (C := "CeilingRowsModel") (T := nf_Ref) (N := 22) hx hb hts nin_Ref hown hK hP 0 rfl rfl 13 (by decide) (hts _ tw_426) (fun _ h9 => h9) rfl nd_Ref_lastLock_31 ?_
            refine lv_iload_n hx hb nd_Ref_lastLock_34 rfl (lv_at hl 2 rfl) ?_
            have b_9 : vp_in v2_4 9 := vp_in_iff.mpr (by omega)
            refine va_iald hx hb hK hP 10 0 rfl rfl b_9 nd_Ref_lastLock_35 ?_
            refine lv_icmp_le (tgt := 41) hx hb nd_Ref_lastLock_36 (by decide) (fun c_10 => ?_) (fun c_10 => ?_)
            · have c_10t := cr_le c_10
              rw [if_pos c_10] at hM
              have e_11 : (v3_4 + (1 : Int32)).toInt = v3_4.toInt + (1 : Int32).toInt := cr_add (by omega)
              refine lv_iinc (v := (v3_4 + (1 : Int32))) (lv' := [(3, .int (v3_4 + (1 : Int32))), (0, .ref (arf 0)), (1, .int x1), (2, .int v2_4)]) hx hb nd_Ref_lastLock_41 hl (k := 3) rfl (by rfl) (by decide) rfl (fun ls hl => ?_)
              refine lv_goto (tgt := 4) hx hb nd_Ref_lastLock_44 (by decide) ?_
              exact ih_4 v2_4 (v3_4 + (1 : Int32)) (by omega) (by omega) (by omega) hM _ _ hP hD hS _ (lv_sub hl [1, 2, 3, 0] rfl)
            · have c_10t := cr_nle c_10
              rw [if_neg c_10] at hM
              refine lv_iload_n hx hb nd_Ref_lastLock_39 rfl (lv_at hl 3 rfl) ?_
              refine lv_istore_n (lv' := [(2, .int v3_4), (0, .ref (arf 0)), (1, .int x1), (3, .int v3_4)]) hx hb nd_Ref_lastLock_40 rfl hl (by decide) rfl (fun ls hl => ?_)
              have e_12 : (v3_4 + (1 : Int32)).toInt = v3_4.toInt + (1 : Int32).toInt := cr_add (by omega)
              refine lv_iinc (v := (v3_4 + (1 : Int32))) (lv' := [(3, .int (v3_4 + (1 : Int32))), (2, .int v3_4), (0, .ref (arf 0)), (1, .int x1)]) hx hb nd_Ref_lastLock_41 hl (k := 3) rfl (by rfl) (by decide) rfl (fun ls hl => ?_)
              refine lv_goto (tgt := 4) hx hb nd_Ref_lastLock_44 (by decide) ?_
              exact ih_4 v3_4 (v3_4 + (1 : Int32)) (by omega) (by omega) (by omega) hM _ _ hP hD hS _ (lv_sub hl [2, 3, 1, 0] rfl)
  exact lp_4 9 (0 : Int32) (1 : Int32) (by omega) (by omega) (by omega) hM _ _ hP hD hS _ hl

theorem nd_Ref_have_0 : decode prog_7_method_22_code 0 = .ok (.aload_n 0, 1) := by decide +kernel
theorem nd_Ref_have_1 : decode prog_7_method_22_code 1 = .ok (.dup, 1) := by decide +kernel
theorem nd_Ref_have_2 : decode prog_7_method_22_code 2 = .ok (.getfield 118, 3) := by decide +kernel
theorem nd_Ref_have_5 : decode prog_7_method_22_code 5 = .ok (.iconst 1, 1) := by decide +kernel
theorem nd_Ref_have_6 : decode prog_7_method_22_code 6 = .ok (.iadd, 1) := by decide +kernel
theorem nd_Ref_have_7 : decode prog_7_method_22_code 7 = .ok (.putfield 118, 3) := by decide +kernel
theorem nd_Ref_have_10 : decode prog_7_method_22_code 10 = .ok (.aload_n 0, 1) := by decide +kernel
theorem nd_Ref_have_11 : decode prog_7_method_22_code 11 = .ok (.getfield 36, 3) := by decide +kernel
theorem nd_Ref_have_14 : decode prog_7_method_22_code 14 = .ok (.iload_n 2, 1) := by decide +kernel
theorem nd_Ref_have_15 : decode prog_7_method_22_code 15 = .ok (.iload_n 1, 1) := by decide +kernel
theorem nd_Ref_have_16 : decode prog_7_method_22_code 16 = .ok (.iastore, 1) := by decide +kernel
theorem nd_Ref_have_17 : decode prog_7_method_22_code 17 = .ok (.aload_n 0, 1) := by decide +kernel
theorem nd_Ref_have_18 : decode prog_7_method_22_code 18 = .ok (.getfield 39, 3) := by decide +kernel
theorem nd_Ref_have_21 : decode prog_7_method_22_code 21 = .ok (.iload_n 2, 1) := by decide +kernel
theorem nd_Ref_have_22 : decode prog_7_method_22_code 22 = .ok (.aload_n 0, 1) := by decide +kernel
theorem nd_Ref_have_23 : decode prog_7_method_22_code 23 = .ok (.getfield 118, 3) := by decide +kernel
theorem nd_Ref_have_26 : decode prog_7_method_22_code 26 = .ok (.iastore, 1) := by decide +kernel
theorem nd_Ref_have_27 : decode prog_7_method_22_code 27 = .ok (.return_, 1) := by decide +kernel
def md_Ref_have (rf : cr_S) (lat : Int64) (ln : (Nat → Int64)) (x1 : Int32) (x2 : Int32) : cr_S :=
  (cr_up (cr_up (cr_up rf 0 3 ((rf 0 3) + (1 : Int32))) 9 x2.toNatClampNeg x1) 10 x2.toNatClampNeg ((cr_up (cr_up rf 0 3 ((rf 0 3) + (1 : Int32))) 9 x2.toNatClampNeg x1) 0 3))
abbrev pq_Ref_have (dC : Nat → ClassId) (dI : Nat → Nat → Nat) (cI cZ cJ : ClassId) (arf : Nat → Nat) (rf : cr_S) (lat : Int64) (ln : (Nat → Int64)) (x1 : Int32) (x2 : Int32) (A : Nat → Prop) : Array Value → State → Outcome → State → Prop :=
  va_Qv (fun (rf' : cr_S) => rf' = md_Ref_have rf lat ln x1 x2 ∧ cr_RRef rf') (fun (rf' : cr_S) t => va_P (dC, dI) vwCl (cw_Ref cI cZ cJ arf rf' lat ln) t.heap ∧ va_K (dC, dI) vwCl [(cI, .int), (cZ, .boolean), (cJ, .long)] t ∧ va_D A (cw_Ref cI cZ cJ arf rf' lat ln)) A
set_option maxHeartbeats 4000000 in
set_option maxRecDepth 100000 in
theorem ct_Ref_have (l : Launch) (dC : Nat → ClassId) (dI : Nat → Nat → Nat) (cI cZ cJ : ClassId) (arf : Nat → Nat) (sz : Nat) (rf : cr_S) (lat : Int64) (ln : (Nat → Int64)) (x1 : Int32) (x2 : Int32) (hR_rf : cr_RRef rf) (hx1 : 0 ≤ x1.toInt ∧ x1.toInt ≤ 3) (hx2 : 0 ≤ x2.toInt ∧ x2.toInt ≤ 8) : Met l ny_Ref_have nw_Ref_have ({ frames := 0, cells := 0, slots := 0, locals := 0 } : Room) (va_Pc [.ref (arf 0), .int x1, .int x2] (fun U => U.heap.size = sz ∧ va_P (dC, dI) vwCl (cw_Ref cI cZ cJ arf rf lat ln) U.heap ∧ va_K (dC, dI) vwCl [(cI, .int), (cZ, .boolean), (cJ, .long)] U ∧ va_D (fun _ => True) (cw_Ref cI cZ cJ arf rf lat ln))) (pq_Ref_have dC dI cI cZ cJ arf rf lat ln x1 x2 (va_A (cw_Ref cI cZ cJ arf rf lat ln) sz)) 0 0 (va_A (cw_Ref cI cZ cJ arf rf lat ln) sz) := by
  refine Met.ofW (cc := prog_7_method_22_code) (maxL := 3) (ret := none) (by decide) rfl ?_
  intro p e s m args below meth c s₁ B hml hv
  obtain ⟨rfl, hsz, hP, hK, hD0⟩ := hv
  have hx := B.exec
  have hb := B.bytes
  have hr := B.returns
  have hts0 := atoms_spec (ws := nw_Ref_have) B.pre
  have hts : ∀ w ∈ ng_tbl, w.before ([.ref (arf 0), .int x1, .int x2] : List Value).toArray s = true := fun w h => hts0 w (List.mem_cons_of_mem _ h)
  have hown : s.vm.findClass "CeilingRowsModel" = some m.cls := findClass_of_methodNamed B.named
  have hlocks := B.notSynchronized
  subst hsz
  have hD := hD0.self (sz := s.heap.size)
  generalize hAe : va_A (cw_Ref cI cZ cJ arf rf lat ln) s.heap.size = A at hD ⊢
  have hA : ∀ q : Nat, s.heap.size ≤ q → A q := fun q h => by rw [← hAe]; exact Or.inr h
  have hS : va_S A s.heap s.heap [] := va_S.rf
  have hP : va_P (dC, dI) vwCl (cw_Ref cI cZ cJ arf rf lat ln) s.heap := hP
  have hl := lv_entry ([.ref (arf 0), .int x1, .int x2]) (n := 3) (Nat.le_of_ble_eq_true rfl)
  rw [lg_entry_eq]
  generalize (lg_sl ([.ref (arf 0), .int x1, .int x2]) ++ List.replicate (3 - (lg_sl ([.ref (arf 0), .int x1, .int x2])).length) Slot.unset).toArray = ls at hl ⊢
  have hl : lv_has ls 3 [(0, .ref (arf 0)), (1, .int x1), (2, .int x2)] := hl
  have f0_rf_0 := cr_rfo hR_rf.1
  have f0_rf_1 := cr_rfo hR_rf.2.1
  have k_1 : (1 : Int32).toInt = 1 := by decide
  obtain ⟨tgt, hT⟩ : ∃ z, md_Ref_have rf lat ln x1 x2 = z := ⟨_, rfl⟩
  have hM := hT
  unfold md_Ref_have at hM
  refine lv_aload_n hx hb nd_Ref_have_0 rfl (lv_at hl 0 rfl) ?_
  refine lv_dup hx hb nd_Ref_have_1 rfl ?_
  refine va_get (D := (dC, dI)) (ci := 5) (v := .int (rf 0 3)) (C := "CeilingRowsModel") (T := nf_Ref) (N := 22) hx hb hts nin_Ref hown hK hP 0 rfl rfl 16 (by decide) (hts _ tw_429) (fun _ h9 => h9) rfl nd_Ref_have_2 ?_
  refine lv_iconst (v := 1) hx hb nd_Ref_have_5 (by decide) ?_
  refine lv_iadd hx hb nd_Ref_have_6 ?_
  refine va_put (D := (dC, dI)) (ci := 5) (v := .int ((rf 0 3) + (1 : Int32))) (ty := .int) (C := "CeilingRowsModel") (T := nf_Ref) (N := 22) hx hb hts nin_Ref nt_Ref nto_Ref nno_Ref hown hK hP hD hS 0 rfl rfl 16 (by decide) (hts _ tw_429) (fun _ h9 => h9) rfl (by decide +kernel) rfl rfl (Nat.le_of_ble_eq_true rfl) nd_Ref_have_7 (fun H locs hP hD hS => ?_)
  have hP : va_P (dC, dI) vwCl (cw_Ref cI cZ cJ arf (cr_up rf 0 3 ((rf 0 3) + (1 : Int32))) lat ln) H := hP
  have hD : va_D A (cw_Ref cI cZ cJ arf (cr_up rf 0 3 ((rf 0 3) + (1 : Int32))) lat ln) := hD
  have hR_1 : cr_RRef (cr_up rf 0 3 ((rf 0 3) + (1 : Int32))) := ⟨cr_rf_up hR_rf.1 (fun _ e => absurd e (by decide)), cr_rf_up hR_rf.2.1 (fun _ e => absurd e (by decide)), cr_rg_up hR_rf.2.2.1 (fun e => absurd e (by decide)), cr_rg_up hR_rf.2.2.2.1 (fun e => absurd e (by decide)), cr_rg_up hR_rf.2.2.2.2.1 (fun e => absurd e (by decide)), cr_rh_up hR_rf.2.2.2.2.2 (fun e => absurd e (by decide))⟩
  obtain ⟨rfq_2, hrfq_2⟩ : ∃ z, (cr_up rf 0 3 ((rf 0 3) + (1 : Int32))) = z := ⟨_, rfl⟩
  rw [hrfq_2] at hP hD hR_1
  try rw [hrfq_2] at hM
  refine lv_aload_n hx hb nd_Ref_have_10 rfl (lv_at hl 0 rfl) ?_
  refine va_get (D := (dC, dI)) (ci := 5) (v := .ref (arf 9)) (C := "CeilingRowsModel") (T := nf_Ref) (N := 22) hx hb hts nin_Ref hown hK hP 0 rfl rfl 12 (by decide) (hts _ tw_425) (fun _ h9 => h9) rfl nd_Ref_have_11 ?_
  refine lv_iload_n hx hb nd_Ref_have_14 rfl (lv_at hl 2 rfl) ?_
  refine lv_iload_n hx hb nd_Ref_have_15 rfl (lv_at hl 1 rfl) ?_
  have b_3 : vp_in x2 9 := vp_in_iff.mpr (by omega)
  refine va_iast hx hb hK hP hD hS 9 0 rfl rfl b_3 nd_Ref_have_16 (fun H locs hP hD hS => ?_)
  have hP : va_P (dC, dI) vwCl (cw_Ref cI cZ cJ arf (cr_up rfq_2 9 x2.toNatClampNeg x1) lat ln) H := hP
  have hD : va_D A (cw_Ref cI cZ cJ arf (cr_up rfq_2 9 x2.toNatClampNeg x1) lat ln) := hD
  have hR_4 : cr_RRef (cr_up rfq_2 9 x2.toNatClampNeg x1) := ⟨cr_rf_up hR_1.1 (fun e _ => absurd e (by decide)), cr_rf_up hR_1.2.1 (fun e _ => absurd e (by decide)), cr_rg_up hR_1.2.2.1 (fun e => absurd e (by decide)), cr_rg_up hR_1.2.2.2.1 (fun _ => by omega), cr_rg_up hR_1.2.2.2.2.1 (fun e => absurd e (by decide)), cr_rh_up hR_1.2.2.2.2.2 (fun e => absurd e (by decide))⟩
  obtain ⟨rfq_5, hrfq_5⟩ : ∃ z, (cr_up rfq_2 9 x2.toNatClampNeg x1) = z := ⟨_, rfl⟩
  rw [hrfq_5] at hP hD hR_4
  try rw [hrfq_5] at hM
  refine lv_aload_n hx hb nd_Ref_have_17 rfl (lv_at hl 0 rfl) ?_
  refine va_get (D := (dC, dI)) (ci := 5) (v := .ref (arf 10)) (C := "CeilingRowsModel") (T := nf_Ref) (N := 22) hx hb hts nin_Ref hown hK hP 0 rfl rfl 13 (by decide) (hts _ tw_426) (fun _ h9 => h9) rfl nd_Ref_have_18 ?_
  refine lv_iload_n hx hb nd_Ref_have_21 rfl (lv_at hl 2 rfl) ?_
  refine lv_aload_n hx hb nd_Ref_have_22 rfl (lv_at hl 0 rfl) ?_
  refine va_get (D := (dC, dI)) (ci := 5) (v := .int (rfq_5 0 3)) (C := "CeilingRowsModel") (T := nf_Ref) (N := 22) hx hb hts nin_Ref hown hK hP 0 rfl rfl 16 (by decide) (hts _ tw_429) (fun _ h9 => h9) rfl nd_Ref_have_23 ?_
  have b_6 : vp_in x2 9 := vp_in_iff.mpr (by omega)
  refine va_iast hx hb hK hP hD hS 10 0 rfl rfl b_6 nd_Ref_have_26 (fun H locs hP hD hS => ?_)
  have hP : va_P (dC, dI) vwCl (cw_Ref cI cZ cJ arf (cr_up rfq_5 10 x2.toNatClampNeg (rfq_5 0 3)) lat ln) H := hP
  have hD : va_D A (cw_Ref cI cZ cJ arf (cr_up rfq_5 10 x2.toNatClampNeg (rfq_5 0 3)) lat ln) := hD
  have hR_7 : cr_RRef (cr_up rfq_5 10 x2.toNatClampNeg (rfq_5 0 3)) := ⟨cr_rf_up hR_4.1 (fun e _ => absurd e (by decide)), cr_rf_up hR_4.2.1 (fun e _ => absurd e (by decide)), cr_rg_up hR_4.2.2.1 (fun e => absurd e (by decide)), cr_rg_up hR_4.2.2.2.1 (fun e => absurd e (by decide)), cr_rg_up hR_4.2.2.2.2.1 (fun e => absurd e (by decide)), cr_rh_up hR_4.2.2.2.2.2 (fun e => absurd e (by decide))⟩
  obtain ⟨rfq_8, hrfq_8⟩ : ∃ z, (cr_up rfq_5 10 x2.toNatClampNeg (rfq_5 0 3)) = z := ⟨_, rfl⟩
  rw [hrfq_8] at hP hD hR_7
  try rw [hrfq_8] at hM
  exact W.vret hx hb hr (fun t ht hW => ⟨⟨rfq_8, rfl, ⟨by rw [hT, ← hM], hR_7⟩, by rw [ht]; exact hP, va_K.moved hW.alike hK, hD⟩, hS.F ht⟩) hS.2.2 nd_Ref_have_27

theorem nd_Ref_lock_0 : decode prog_7_method_23_code 0 = .ok (.iload_n 1, 1) := by decide +kernel
theorem nd_Ref_lock_1 : decode prog_7_method_23_code 1 = .ok (.iconst 1, 1) := by decide +kernel
theorem nd_Ref_lock_2 : decode prog_7_method_23_code 2 = .ok (.if_icmp .lt (8), 3) := by decide +kernel
theorem nd_Ref_lock_5 : decode prog_7_method_23_code 5 = .ok (.iload_n 1, 1) := by decide +kernel
theorem nd_Ref_lock_6 : decode prog_7_method_23_code 6 = .ok (.iconst 3, 1) := by decide +kernel
theorem nd_Ref_lock_7 : decode prog_7_method_23_code 7 = .ok (.if_icmp .le (5), 3) := by decide +kernel
theorem nd_Ref_lock_10 : decode prog_7_method_23_code 10 = .ok (.iconst (-1), 1) := by decide +kernel
theorem nd_Ref_lock_11 : decode prog_7_method_23_code 11 = .ok (.ireturn, 1) := by decide +kernel
theorem nd_Ref_lock_12 : decode prog_7_method_23_code 12 = .ok (.iload_n 2, 1) := by decide +kernel
theorem nd_Ref_lock_13 : decode prog_7_method_23_code 13 = .ok (.bipush (-8), 2) := by decide +kernel
theorem nd_Ref_lock_15 : decode prog_7_method_23_code 15 = .ok (.if_icmp .lt (13), 3) := by decide +kernel
theorem nd_Ref_lock_18 : decode prog_7_method_23_code 18 = .ok (.iload_n 2, 1) := by decide +kernel
theorem nd_Ref_lock_19 : decode prog_7_method_23_code 19 = .ok (.bipush 8, 2) := by decide +kernel
theorem nd_Ref_lock_21 : decode prog_7_method_23_code 21 = .ok (.if_icmp .gt (7), 3) := by decide +kernel
theorem nd_Ref_lock_24 : decode prog_7_method_23_code 24 = .ok (.iload_n 2, 1) := by decide +kernel
theorem nd_Ref_lock_25 : decode prog_7_method_23_code 25 = .ok (.ifCond .ne (6), 3) := by decide +kernel
theorem nd_Ref_lock_28 : decode prog_7_method_23_code 28 = .ok (.bipush (-2), 2) := by decide +kernel
theorem nd_Ref_lock_30 : decode prog_7_method_23_code 30 = .ok (.ireturn, 1) := by decide +kernel
theorem nd_Ref_lock_31 : decode prog_7_method_23_code 31 = .ok (.aload_n 0, 1) := by decide +kernel
theorem nd_Ref_lock_32 : decode prog_7_method_23_code 32 = .ok (.getfield 42, 3) := by decide +kernel
theorem nd_Ref_lock_35 : decode prog_7_method_23_code 35 = .ok (.iload_n 1, 1) := by decide +kernel
theorem nd_Ref_lock_36 : decode prog_7_method_23_code 36 = .ok (.iaload, 1) := by decide +kernel
theorem nd_Ref_lock_37 : decode prog_7_method_23_code 37 = .ok (.ifCond .le (6), 3) := by decide +kernel
theorem nd_Ref_lock_40 : decode prog_7_method_23_code 40 = .ok (.bipush (-3), 2) := by decide +kernel
theorem nd_Ref_lock_42 : decode prog_7_method_23_code 42 = .ok (.ireturn, 1) := by decide +kernel
theorem nd_Ref_lock_43 : decode prog_7_method_23_code 43 = .ok (.iload_n 2, 1) := by decide +kernel
theorem nd_Ref_lock_44 : decode prog_7_method_23_code 44 = .ok (.ifCond .le (76), 3) := by decide +kernel
theorem nd_Ref_lock_47 : decode prog_7_method_23_code 47 = .ok (.iload_n 2, 1) := by decide +kernel
theorem nd_Ref_lock_48 : decode prog_7_method_23_code 48 = .ok (.istore_n 3, 1) := by decide +kernel
theorem nd_Ref_lock_49 : decode prog_7_method_23_code 49 = .ok (.iload_n 3, 1) := by decide +kernel
theorem nd_Ref_lock_50 : decode prog_7_method_23_code 50 = .ok (.bipush 9, 2) := by decide +kernel
theorem nd_Ref_lock_52 : decode prog_7_method_23_code 52 = .ok (.if_icmp .ge (22), 3) := by decide +kernel
theorem nd_Ref_lock_55 : decode prog_7_method_23_code 55 = .ok (.aload_n 0, 1) := by decide +kernel
theorem nd_Ref_lock_56 : decode prog_7_method_23_code 56 = .ok (.getfield 36, 3) := by decide +kernel
theorem nd_Ref_lock_59 : decode prog_7_method_23_code 59 = .ok (.iload_n 3, 1) := by decide +kernel
theorem nd_Ref_lock_60 : decode prog_7_method_23_code 60 = .ok (.iaload, 1) := by decide +kernel
theorem nd_Ref_lock_61 : decode prog_7_method_23_code 61 = .ok (.iload_n 1, 1) := by decide +kernel
theorem nd_Ref_lock_62 : decode prog_7_method_23_code 62 = .ok (.if_icmp .ne (6), 3) := by decide +kernel
theorem nd_Ref_lock_65 : decode prog_7_method_23_code 65 = .ok (.bipush (-16), 2) := by decide +kernel
theorem nd_Ref_lock_67 : decode prog_7_method_23_code 67 = .ok (.ireturn, 1) := by decide +kernel
theorem nd_Ref_lock_68 : decode prog_7_method_23_code 68 = .ok (.iinc 3 1, 3) := by decide +kernel
theorem nd_Ref_lock_71 : decode prog_7_method_23_code 71 = .ok (.goto (-22), 3) := by decide +kernel
theorem nd_Ref_lock_74 : decode prog_7_method_23_code 74 = .ok (.aload_n 0, 1) := by decide +kernel
theorem nd_Ref_lock_75 : decode prog_7_method_23_code 75 = .ok (.getfield 36, 3) := by decide +kernel
theorem nd_Ref_lock_78 : decode prog_7_method_23_code 78 = .ok (.iload_n 2, 1) := by decide +kernel
theorem nd_Ref_lock_79 : decode prog_7_method_23_code 79 = .ok (.iaload, 1) := by decide +kernel
theorem nd_Ref_lock_80 : decode prog_7_method_23_code 80 = .ok (.ifCond .le (32), 3) := by decide +kernel
theorem nd_Ref_lock_83 : decode prog_7_method_23_code 83 = .ok (.aload_n 0, 1) := by decide +kernel
theorem nd_Ref_lock_84 : decode prog_7_method_23_code 84 = .ok (.dup, 1) := by decide +kernel
theorem nd_Ref_lock_85 : decode prog_7_method_23_code 85 = .ok (.getfield 118, 3) := by decide +kernel
theorem nd_Ref_lock_88 : decode prog_7_method_23_code 88 = .ok (.iconst 1, 1) := by decide +kernel
theorem nd_Ref_lock_89 : decode prog_7_method_23_code 89 = .ok (.iadd, 1) := by decide +kernel
theorem nd_Ref_lock_90 : decode prog_7_method_23_code 90 = .ok (.putfield 118, 3) := by decide +kernel
theorem nd_Ref_lock_93 : decode prog_7_method_23_code 93 = .ok (.aload_n 0, 1) := by decide +kernel
theorem nd_Ref_lock_94 : decode prog_7_method_23_code 94 = .ok (.getfield 42, 3) := by decide +kernel
theorem nd_Ref_lock_97 : decode prog_7_method_23_code 97 = .ok (.iload_n 1, 1) := by decide +kernel
theorem nd_Ref_lock_98 : decode prog_7_method_23_code 98 = .ok (.iload_n 2, 1) := by decide +kernel
theorem nd_Ref_lock_99 : decode prog_7_method_23_code 99 = .ok (.iastore, 1) := by decide +kernel
theorem nd_Ref_lock_100 : decode prog_7_method_23_code 100 = .ok (.aload_n 0, 1) := by decide +kernel
theorem nd_Ref_lock_101 : decode prog_7_method_23_code 101 = .ok (.getfield 45, 3) := by decide +kernel
theorem nd_Ref_lock_104 : decode prog_7_method_23_code 104 = .ok (.iload_n 1, 1) := by decide +kernel
theorem nd_Ref_lock_105 : decode prog_7_method_23_code 105 = .ok (.aload_n 0, 1) := by decide +kernel
theorem nd_Ref_lock_106 : decode prog_7_method_23_code 106 = .ok (.getfield 118, 3) := by decide +kernel
theorem nd_Ref_lock_109 : decode prog_7_method_23_code 109 = .ok (.iastore, 1) := by decide +kernel
theorem nd_Ref_lock_110 : decode prog_7_method_23_code 110 = .ok (.iconst 0, 1) := by decide +kernel
theorem nd_Ref_lock_111 : decode prog_7_method_23_code 111 = .ok (.ireturn, 1) := by decide +kernel
theorem nd_Ref_lock_112 : decode prog_7_method_23_code 112 = .ok (.aload_n 0, 1) := by decide +kernel
theorem nd_Ref_lock_113 : decode prog_7_method_23_code 113 = .ok (.iload_n 1, 1) := by decide +kernel
theorem nd_Ref_lock_114 : decode prog_7_method_23_code 114 = .ok (.iload_n 2, 1) := by decide +kernel
theorem nd_Ref_lock_115 : decode prog_7_method_23_code 115 = .ok (.invokevirtual 121, 3) := by decide +kernel
theorem nd_Ref_lock_118 : decode prog_7_method_23_code 118 = .ok (.iconst 1, 1) := by decide +kernel
theorem nd_Ref_lock_119 : decode prog_7_method_23_code 119 = .ok (.ireturn, 1) := by decide +kernel
theorem nd_Ref_lock_120 : decode prog_7_method_23_code 120 = .ok (.aload_n 0, 1) := by decide +kernel
theorem nd_Ref_lock_121 : decode prog_7_method_23_code 121 = .ok (.iload_n 1, 1) := by decide +kernel
theorem nd_Ref_lock_122 : decode prog_7_method_23_code 122 = .ok (.invokevirtual 125, 3) := by decide +kernel
theorem nd_Ref_lock_125 : decode prog_7_method_23_code 125 = .ok (.iload_n 2, 1) := by decide +kernel
theorem nd_Ref_lock_126 : decode prog_7_method_23_code 126 = .ok (.ineg, 1) := by decide +kernel
theorem nd_Ref_lock_127 : decode prog_7_method_23_code 127 = .ok (.if_icmp .eq (6), 3) := by decide +kernel
theorem nd_Ref_lock_130 : decode prog_7_method_23_code 130 = .ok (.bipush (-17), 2) := by decide +kernel
theorem nd_Ref_lock_132 : decode prog_7_method_23_code 132 = .ok (.ireturn, 1) := by decide +kernel
theorem nd_Ref_lock_133 : decode prog_7_method_23_code 133 = .ok (.aload_n 0, 1) := by decide +kernel
theorem nd_Ref_lock_134 : decode prog_7_method_23_code 134 = .ok (.getfield 36, 3) := by decide +kernel
theorem nd_Ref_lock_137 : decode prog_7_method_23_code 137 = .ok (.iload_n 2, 1) := by decide +kernel
theorem nd_Ref_lock_138 : decode prog_7_method_23_code 138 = .ok (.ineg, 1) := by decide +kernel
theorem nd_Ref_lock_139 : decode prog_7_method_23_code 139 = .ok (.iconst 0, 1) := by decide +kernel
theorem nd_Ref_lock_140 : decode prog_7_method_23_code 140 = .ok (.iastore, 1) := by decide +kernel
theorem nd_Ref_lock_141 : decode prog_7_method_23_code 141 = .ok (.iconst 0, 1) := by decide +kernel
theorem nd_Ref_lock_142 : decode prog_7_method_23_code 142 = .ok (.istore_n 3, 1) := by decide +kernel
theorem nd_Ref_lock_143 : decode prog_7_method_23_code 143 = .ok (.iconst 1, 1) := by decide +kernel
theorem nd_Ref_lock_144 : decode prog_7_method_23_code 144 = .ok (.istore 4, 2) := by decide +kernel
theorem nd_Ref_lock_146 : decode prog_7_method_23_code 146 = .ok (.iload 4, 2) := by decide +kernel
theorem nd_Ref_lock_148 : decode prog_7_method_23_code 148 = .ok (.iconst 4, 1) := by decide +kernel
theorem nd_Ref_lock_149 : decode prog_7_method_23_code 149 = .ok (.if_icmp .ge (44), 3) := by decide +kernel
theorem nd_Ref_lock_152 : decode prog_7_method_23_code 152 = .ok (.aload_n 0, 1) := by decide +kernel
theorem nd_Ref_lock_153 : decode prog_7_method_23_code 153 = .ok (.getfield 42, 3) := by decide +kernel
theorem nd_Ref_lock_156 : decode prog_7_method_23_code 156 = .ok (.iload 4, 2) := by decide +kernel
theorem nd_Ref_lock_158 : decode prog_7_method_23_code 158 = .ok (.iaload, 1) := by decide +kernel
theorem nd_Ref_lock_159 : decode prog_7_method_23_code 159 = .ok (.iload_n 2, 1) := by decide +kernel
theorem nd_Ref_lock_160 : decode prog_7_method_23_code 160 = .ok (.ineg, 1) := by decide +kernel
theorem nd_Ref_lock_161 : decode prog_7_method_23_code 161 = .ok (.if_icmp .ne (26), 3) := by decide +kernel
theorem nd_Ref_lock_164 : decode prog_7_method_23_code 164 = .ok (.iload_n 3, 1) := by decide +kernel
theorem nd_Ref_lock_165 : decode prog_7_method_23_code 165 = .ok (.ifCond .eq (19), 3) := by decide +kernel
theorem nd_Ref_lock_168 : decode prog_7_method_23_code 168 = .ok (.aload_n 0, 1) := by decide +kernel
theorem nd_Ref_lock_169 : decode prog_7_method_23_code 169 = .ok (.getfield 45, 3) := by decide +kernel
theorem nd_Ref_lock_172 : decode prog_7_method_23_code 172 = .ok (.iload 4, 2) := by decide +kernel
theorem nd_Ref_lock_174 : decode prog_7_method_23_code 174 = .ok (.iaload, 1) := by decide +kernel
theorem nd_Ref_lock_175 : decode prog_7_method_23_code 175 = .ok (.aload_n 0, 1) := by decide +kernel
theorem nd_Ref_lock_176 : decode prog_7_method_23_code 176 = .ok (.getfield 45, 3) := by decide +kernel
theorem nd_Ref_lock_179 : decode prog_7_method_23_code 179 = .ok (.iload_n 3, 1) := by decide +kernel
theorem nd_Ref_lock_180 : decode prog_7_method_23_code 180 = .ok (.iaload, 1) := by decide +kernel
theorem nd_Ref_lock_181 : decode prog_7_method_23_code 181 = .ok (.if_icmp .ge (6), 3) := by decide +kernel
theorem nd_Ref_lock_184 : decode prog_7_method_23_code 184 = .ok (.iload 4, 2) := by decide +kernel
theorem nd_Ref_lock_186 : decode prog_7_method_23_code 186 = .ok (.istore_n 3, 1) := by decide +kernel
theorem nd_Ref_lock_187 : decode prog_7_method_23_code 187 = .ok (.iinc 4 1, 3) := by decide +kernel
theorem nd_Ref_lock_190 : decode prog_7_method_23_code 190 = .ok (.goto (-44), 3) := by decide +kernel
theorem nd_Ref_lock_193 : decode prog_7_method_23_code 193 = .ok (.iload_n 3, 1) := by decide +kernel
theorem nd_Ref_lock_194 : decode prog_7_method_23_code 194 = .ok (.ifCond .le (17), 3) := by decide +kernel
theorem nd_Ref_lock_197 : decode prog_7_method_23_code 197 = .ok (.aload_n 0, 1) := by decide +kernel
theorem nd_Ref_lock_198 : decode prog_7_method_23_code 198 = .ok (.getfield 42, 3) := by decide +kernel
theorem nd_Ref_lock_201 : decode prog_7_method_23_code 201 = .ok (.iload_n 3, 1) := by decide +kernel
theorem nd_Ref_lock_202 : decode prog_7_method_23_code 202 = .ok (.iconst 0, 1) := by decide +kernel
theorem nd_Ref_lock_203 : decode prog_7_method_23_code 203 = .ok (.iastore, 1) := by decide +kernel
theorem nd_Ref_lock_204 : decode prog_7_method_23_code 204 = .ok (.aload_n 0, 1) := by decide +kernel
theorem nd_Ref_lock_205 : decode prog_7_method_23_code 205 = .ok (.iload_n 3, 1) := by decide +kernel
theorem nd_Ref_lock_206 : decode prog_7_method_23_code 206 = .ok (.iload_n 2, 1) := by decide +kernel
theorem nd_Ref_lock_207 : decode prog_7_method_23_code 207 = .ok (.ineg, 1) := by decide +kernel
theorem nd_Ref_lock_208 : decode prog_7_method_23_code 208 = .ok (.invokevirtual 121, 3) := by decide +kernel
theorem nd_Ref_lock_211 : decode prog_7_method_23_code 211 = .ok (.iconst 1, 1) := by decide +kernel
theorem nd_Ref_lock_212 : decode prog_7_method_23_code 212 = .ok (.ireturn, 1) := by decide +kernel
def lo_Ref_lock_146 (rf : cr_S) (lat : Int64) (ln : (Nat → Int64)) (x1 : Int32) (x2 : Int32) : Nat → Int32 → Int32 → Int32 × cr_S
  | 0, _, _ => (0, rf)
  | n_146 + 1, v3_146, v4_146 =>
    (if (4 : Int32) ≤ v4_146 then (if v3_146 ≤ 0 then ((1 : Int32), rf) else ((1 : Int32), (md_Ref_have (cr_up rf 11 v3_146.toNatClampNeg (0 : Int32)) lat ln v3_146 (-x2)))) else (if (rf 11 v4_146.toNatClampNeg) = (-x2) then (if v3_146 = 0 then (lo_Ref_lock_146 rf lat ln x1 x2 n_146 v4_146 (v4_146 + (1 : Int32))) else (if (rf 12 v3_146.toNatClampNeg) ≤ (rf 12 v4_146.toNatClampNeg) then (lo_Ref_lock_146 rf lat ln x1 x2 n_146 v3_146 (v4_146 + (1 : Int32))) else (lo_Ref_lock_146 rf lat ln x1 x2 n_146 v4_146 (v4_146 + (1 : Int32))))) else (lo_Ref_lock_146 rf lat ln x1 x2 n_146 v3_146 (v4_146 + (1 : Int32)))))
def lo_Ref_lock_49 (rf : cr_S) (lat : Int64) (ln : (Nat → Int64)) (x1 : Int32) (x2 : Int32) : Nat → Int32 → Int32 × cr_S
  | 0, _ => (0, rf)
  | n_49 + 1, v3_49 =>
    (if (9 : Int32) ≤ v3_49 then (if (rf 9 x2.toNatClampNeg) ≤ 0 then ((1 : Int32), (md_Ref_have rf lat ln x1 x2)) else ((0 : Int32), (cr_up (cr_up (cr_up rf 0 3 ((rf 0 3) + (1 : Int32))) 11 x1.toNatClampNeg x2) 12 x1.toNatClampNeg ((cr_up (cr_up rf 0 3 ((rf 0 3) + (1 : Int32))) 11 x1.toNatClampNeg x2) 0 3)))) else (if (rf 9 v3_49.toNatClampNeg) = x1 then ((-16 : Int32), rf) else (lo_Ref_lock_49 rf lat ln x1 x2 n_49 (v3_49 + (1 : Int32)))))
def md_Ref_lock (rf : cr_S) (lat : Int64) (ln : (Nat → Int64)) (x1 : Int32) (x2 : Int32) : Int32 × cr_S :=
  (if x1 < (1 : Int32) then ((-1 : Int32), rf) else (if x1 ≤ (3 : Int32) then (if x2 < (-8 : Int32) then ((-2 : Int32), rf) else (if (8 : Int32) < x2 then ((-2 : Int32), rf) else (if x2 = 0 then ((-2 : Int32), rf) else (if (rf 11 x1.toNatClampNeg) ≤ 0 then (if x2 ≤ 0 then (if (md_Ref_lastLock rf lat ln x1) = (-x2) then (lo_Ref_lock_146 (cr_up rf 9 (-x2).toNatClampNeg (0 : Int32)) lat ln x1 x2 4 (0 : Int32) (1 : Int32)) else ((-17 : Int32), rf)) else (lo_Ref_lock_49 rf lat ln x1 x2 9 x2)) else ((-3 : Int32), rf))))) else ((-1 : Int32), rf)))
abbrev pq_Ref_lock (dC : Nat → ClassId) (dI : Nat → Nat → Nat) (cI cZ cJ : ClassId) (arf : Nat → Nat) (rf : cr_S) (lat : Int64) (ln : (Nat → Int64)) (x1 : Int32) (x2 : Int32) (A : Nat → Prop) : Array Value → State → Outcome → State → Prop :=
  va_Qi (fun (r : Int32) (rf' : cr_S) => r = (md_Ref_lock rf lat ln x1 x2).1 ∧ rf' = (md_Ref_lock rf lat ln x1 x2).2 ∧ cr_RRef rf') (fun (rf' : cr_S) t => va_P (dC, dI) vwCl (cw_Ref cI cZ cJ arf rf' lat ln) t.heap ∧ va_K (dC, dI) vwCl [(cI, .int), (cZ, .boolean), (cJ, .long)] t ∧ va_D A (cw_Ref cI cZ cJ arf rf' lat ln)) A
set_option maxHeartbeats 4000000 in
set_option maxRecDepth 100000 in
theorem ct_Ref_lock (l : Launch) (dC : Nat → ClassId) (dI : Nat → Nat → Nat) (cI cZ cJ : ClassId) (arf : Nat → Nat) (sz : Nat) (rf : cr_S) (lat : Int64) (ln : (Nat → Int64)) (x1 : Int32) (x2 : Int32) (hR_rf : cr_RRef rf) : Met l ny_Ref_lock nw_Ref_lock ({ frames := 1, cells := 0, slots := 0, locals := 23 } : Room) (va_Pc [.ref (arf 0), .int x1, .int x2] (fun U => U.heap.size = sz ∧ va_P (dC, dI) vwCl (cw_Ref cI cZ cJ arf rf lat ln) U.heap ∧ va_K (dC, dI) vwCl [(cI, .int), (cZ, .boolean), (cJ, .long)] U ∧ va_D (fun _ => True) (cw_Ref cI cZ cJ arf rf lat ln))) (pq_Ref_lock dC dI cI cZ cJ arf rf lat ln x1 x2 (va_A (cw_Ref cI cZ cJ arf rf lat ln) sz)) 0 0 (va_A (cw_Ref cI cZ cJ arf rf lat ln) sz) := by
  refine Met.ofW (cc := prog_7_method_23_code) (maxL := 5) (ret := (some .int)) (by decide) rfl ?_
  intro p e s m args below meth c s₁ B hml hv
  obtain ⟨rfl, hsz, hP, hK, hD0⟩ := hv
  have hx := B.exec
  have hb := B.bytes
  have hr := B.returns
  have hts0 := atoms_spec (ws := nw_Ref_lock) B.pre
  have hts : ∀ w ∈ ng_tbl, w.before ([.ref (arf 0), .int x1, .int x2] : List Value).toArray s = true := fun w h => hts0 w (List.mem_cons_of_mem _ h)
  have hown : s.vm.findClass "CeilingRowsModel" = some m.cls := findClass_of_methodNamed B.named
  have hlocks := B.notSynchronized
  subst hsz
  have hD := hD0.self (sz := s.heap.size)
  generalize hAe : va_A (cw_Ref cI cZ cJ arf rf lat ln) s.heap.size = A at hD ⊢
  have hA : ∀ q : Nat, s.heap.size ≤ q → A q := fun q h => by rw [← hAe]; exact Or.inr h
  have hS : va_S A s.heap s.heap [] := va_S.rf
  have hP : va_P (dC, dI) vwCl (cw_Ref cI cZ cJ arf rf lat ln) s.heap := hP
  have hl := lv_entry ([.ref (arf 0), .int x1, .int x2]) (n := 5) (Nat.le_of_ble_eq_true rfl)
  rw [lg_entry_eq]
  generalize (lg_sl ([.ref (arf 0), .int x1, .int x2]) ++ List.replicate (5 - (lg_sl ([.ref (arf 0), .int x1, .int x2])).length) Slot.unset).toArray = ls at hl ⊢
  have hl : lv_has ls 5 [(0, .ref (arf 0)), (1, .int x1), (2, .int x2)] := hl
  have f0_rf_0 := cr_rfo hR_rf.1
  have f0_rf_1 := cr_rfo hR_rf.2.1
  have k_m17 : (-17 : Int32).toInt = -17 := by decide
  have k_m16 : (-16 : Int32).toInt = -16 := by decide
  have k_m8 : (-8 : Int32).toInt = -8 := by decide
  have k_m3 : (-3 : Int32).toInt = -3 := by decide
  have k_m2 : (-2 : Int32).toInt = -2 := by decide
  have k_m1 : (-1 : Int32).toInt = -1 := by decide
  have k_0 : (0 : Int32).toInt = 0 := by decide
  have k_1 : (1 : Int32).toInt = 1 := by decide
  have k_3 : (3 : Int32).toInt = 3 := by decide
  have k_4 : (4 : Int32).toInt = 4 := by decide
  have k_8 : (8 : Int32).toInt = 8 := by decide
  have k_9 : (9 : Int32).toInt = 9 := by decide
  obtain ⟨tgt, hT⟩ : ∃ z, md_Ref_lock rf lat ln x1 x2 = z := ⟨_, rfl⟩
  have hM := hT
  unfold md_Ref_lock at hM
  refine lv_iload_n hx hb nd_Ref_lock_0 rfl (lv_at hl 1 rfl) ?_
  refine lv_iconst (v := 1) hx hb nd_Ref_lock_1 (by decide) ?_
  refine lv_icmp_lt (tgt := 10) hx hb nd_Ref_lock_2 (by decide) (fun c_1 => ?_) (fun c_1 => ?_)
  · have c_1t := cr_lt c_1
    rw [if_pos c_1] at hM
    refine lv_iconst (v := -1) hx hb nd_Ref_lock_10 (by decide) ?_
    exact W.iret (v := (-1 : Int32)) hx hb hr (fun t ht hW => ⟨⟨(-1 : Int32), rf, rfl, ⟨by rw [hT, ← hM], by rw [hT, ← hM], hR_rf⟩, by rw [ht]; exact hP, va_K.moved hW.alike hK, hD⟩, hS.F ht⟩) hS.2.2 nd_Ref_lock_11
  · have c_1t := cr_nlt c_1
    rw [if_neg c_1] at hM
    refine lv_iload_n hx hb nd_Ref_lock_5 rfl (lv_at hl 1 rfl) ?_
    refine lv_iconst (v := 3) hx hb nd_Ref_lock_6 (by decide) ?_
    refine lv_icmp_le (tgt := 12) hx hb nd_Ref_lock_7 (by decide) (fun c_2 => ?_) (fun c_2 => ?_)
    · have c_2t := cr_le c_2
      rw [if_pos c_2] at hM
      refine lv_iload_n hx hb nd_Ref_lock_12 rfl (lv_at hl 2 rfl) ?_
      refine lv_bipush (v := -8) hx hb nd_Ref_lock_13 (by decide) ?_
      refine lv_icmp_lt (tgt := 28) hx hb nd_Ref_lock_15 (by decide) (fun c_3 => ?_) (fun c_3 => ?_)
      · have c_3t := cr_lt c_3
        rw [if_pos c_3] at hM
        refine lv_bipush (v := -2) hx hb nd_Ref_lock_28 (by decide) ?_
        exact W.iret (v := (-2 : Int32)) hx hb hr (fun t ht hW => ⟨⟨(-2 : Int32), rf, rfl, ⟨by rw [hT, ← hM], by rw [hT, ← hM], hR_rf⟩, by rw [ht]; exact hP, va_K.moved hW.alike hK, hD⟩, hS.F ht⟩) hS.2.2 nd_Ref_lock_30
      · have c_3t := cr_nlt c_3
        rw [if_neg c_3] at hM
        refine lv_iload_n hx hb nd_Ref_lock_18 rfl (lv_at hl 2 rfl) ?_
        refine lv_bipush (v := 8) hx hb nd_Ref_lock_19 (by decide) ?_
        refine lv_icmp_gt (tgt := 28) hx hb nd_Ref_lock_21 (by decide) (fun c_4 => ?_) (fun c_4 => ?_)
        · have c_4t := cr_lt c_4
          rw [if_pos c_4] at hM
          refine lv_bipush (v := -2) hx hb nd_Ref_lock_28 (by decide) ?_
          exact W.iret (v := (-2 : Int32)) hx hb hr (fun t ht hW => ⟨⟨(-2 : Int32), rf, rfl, ⟨by rw [hT, ← hM], by rw [hT, ← hM], hR_rf⟩, by rw [ht]; exact hP, va_K.moved hW.alike hK, hD⟩, hS.F ht⟩) hS.2.2 nd_Ref_lock_30
        · have c_4t := cr_nlt c_4
          rw [if_neg c_4] at hM
          refine lv_iload_n hx hb nd_Ref_lock_24 rfl (lv_at hl 2 rfl) ?_
          refine lv_if_ne (tgt := 31) hx hb nd_Ref_lock_25 (by decide) (fun c_5 => ?_) (fun c_5 => ?_)
          · have c_5t := cr_ne c_5
            rw [if_neg c_5] at hM
            refine lv_aload_n hx hb nd_Ref_lock_31 rfl (lv_at hl 0 rfl) ?_
            refine va_get (D := (dC, dI)) (ci := 5) (v := .ref (arf 11)) (C := "CeilingRowsModel") (T := nf_Ref) (N := 22) hx hb hts nin_Ref hown hK hP 0 rfl rfl 14 (by decide) (hts _ tw_427) (fun _ h9 => h9) rfl nd_Ref_lock_32 ?_
            refine lv_iload_n hx hb nd_Ref_lock_35 rfl (lv_at hl 1 rfl) ?_
            have b_6 : vp_in x1 4 := vp_in_iff.mpr (by omega)
            refine va_iald hx hb hK hP 11 0 rfl rfl b_6 nd_Ref_lock_36 ?_
            have f_7 := cr_rgo hR_rf.2.2.2.2.1 (x1.toNatClampNeg)
            refine lv_if_le (tgt := 43) hx hb nd_Ref_lock_37 (by decide) (fun c_8 => ?_) (fun c_8 => ?_)
            · have c_8t := cr_le c_8
              rw [if_pos c_8] at hM
              refine lv_iload_n hx hb nd_Ref_lock_43 rfl (lv_at hl 2 rfl) ?_
              refine lv_if_le (tgt := 120) hx hb nd_Ref_lock_44 (by decide) (fun c_9 => ?_) (fun c_9 => ?_)
              · have c_9t := cr_le c_9
                rw [if_pos c_9] at hM
                refine lv_aload_n hx hb nd_Ref_lock_120 rfl (lv_at hl 0 rfl) ?_
                refine lv_iload_n hx hb nd_Ref_lock_121 rfl (lv_at hl 1 rfl) ?_
                have hPc := hP
                have hDc := hD
                have hFc := va_free (wc := cw_Ref cI cZ cJ arf rf lat ln) hD hS hA [0, 1, 2, 3, 4, 5, 6, 7, 8, 9, 10, 11, 12, 13, 14, 15, 16, 17] rfl
                refine va_calli (va_runV (As := [.int x1]) (rest := []) ⟨hx, hb, hml, hown, hts⟩ (ct_Ref_lastLock l dC dI cI cZ cJ arf s.heap.size rf lat ln x1 hR_rf) (cwV 1 hts (ng_V tw_568 tw_570 tp_29 tw_6 tw_571) rfl rfl rfl (by decide +kernel) ⟨Nat.le_of_ble_eq_true rfl, Nat.le_of_ble_eq_true rfl⟩) ⟨fun a U g mk q => by obtain ⟨q0, q1, qP, qK, qD⟩ := q; exact ⟨q0, q1, qP, va_K.moved (u := U) (U := U.calling g mk a) (Vm.Alike.refl U.vm) qK, qD⟩, va_recv hK hPc (ci := 5) (q0 := 0) rfl rfl, fun U hU hW => ⟨rfl, by rw [hU], by rw [hU]; exact hPc, va_K.moved hW.alike hK, hDc.weaken (fun _ _ _ _ => trivial)⟩⟩ rfl rfl hl.1 rfl (lv_room (Nat.le_of_ble_eq_true rfl)) nd_Ref_lock_122 ⟨Nat.zero_le _, Nat.zero_le _⟩) hS (fun q _ h => hFc q h) hFc (fun r_10 u t H1 locs ht hvm hw hB hz1 hk1 hS => ?_)
                obtain ⟨hP1, hK1, hD1⟩ := hB
                rw [ht] at hP1
                obtain ⟨w_11, f_12⟩ := hw
                try rw [← w_11] at hM
                have hP := hP1
                have hD := cr_Dw hD1 hFc
                generalize H1 = H at hP hS ⊢
                refine lv_iload_n hx hb nd_Ref_lock_125 rfl (lv_at hl 2 rfl) ?_
                refine lv_ineg hx hb nd_Ref_lock_126 ?_
                have e_13 : (-x2).toInt = -(x2.toInt) := cr_neg (by omega)
                refine lv_icmp_eq (tgt := 133) hx hb nd_Ref_lock_127 (by decide) (fun c_14 => ?_) (fun c_14 => ?_)
                · have c_14t := cr_eq c_14
                  rw [if_pos c_14] at hM
                  refine lv_aload_n hx hb nd_Ref_lock_133 rfl (lv_at hl 0 rfl) ?_
                  refine va_get (D := (dC, dI)) (ci := 5) (v := .ref (arf 9)) (C := "CeilingRowsModel") (T := nf_Ref) (N := 22) hx hb hts nin_Ref hown hK hP 0 rfl rfl 12 (by decide) (hts _ tw_425) (fun _ h9 => h9) rfl nd_Ref_lock_134 ?_
                  refine lv_iload_n hx hb nd_Ref_lock_137 rfl (lv_at hl 2 rfl) ?_
                  refine lv_ineg hx hb nd_Ref_lock_138 ?_
                  have e_15 : (-x2).toInt = -(x2.toInt) := cr_neg (by omega)
                  refine lv_iconst (v := 0) hx hb nd_Ref_lock_139 (by decide) ?_
                  have b_16 : vp_in (-x2) 9 := vp_in_iff.mpr (by omega)
                  refine va_iast hx hb hK hP hD hS 9 0 rfl rfl b_16 nd_Ref_lock_140 (fun H locs hP hD hS => ?_)
                  have hP : va_P (dC, dI) vwCl (cw_Ref cI cZ cJ arf (cr_up rf 9 (-x2).toNatClampNeg (0 : Int32)) lat ln) H := hP
                  have hD : va_D A (cw_Ref cI cZ cJ arf (cr_up rf 9 (-x2).toNatClampNeg (0 : Int32)) lat ln) := hD
                  have hR_17 : cr_RRef (cr_up rf 9 (-x2).toNatClampNeg (0 : Int32)) := ⟨cr_rf_up hR_rf.1 (fun e _ => absurd e (by decide)), cr_rf_up hR_rf.2.1 (fun e _ => absurd e (by decide)), cr_rg_up hR_rf.2.2.1 (fun e => absurd e (by decide)), cr_rg_up hR_rf.2.2.2.1 (fun _ => by omega), cr_rg_up hR_rf.2.2.2.2.1 (fun e => absurd e (by decide)), cr_rh_up hR_rf.2.2.2.2.2 (fun e => absurd e (by decide))⟩
                  obtain ⟨rfq_18, hrfq_18⟩ : ∃ z, (cr_up rf 9 (-x2).toNatClampNeg (0 : Int32)) = z := ⟨_, rfl⟩
                  rw [hrfq_18] at hP hD hR_17
                  try rw [hrfq_18] at hM
                  refine lv_iconst (v := 0) hx hb nd_Ref_lock_141 (by decide) ?_
                  refine lv_istore_n (lv' := [(3, .int (0 : Int32)), (0, .ref (arf 0)), (1, .int x1), (2, .int x2)]) hx hb nd_Ref_lock_142 rfl hl (by decide) rfl (fun ls hl => ?_)
                  refine lv_iconst (v := 1) hx hb nd_Ref_lock_143 (by decide) ?_
                  refine lv_istore (lv' := [(4, .int (1 : Int32)), (3, .int (0 : Int32)), (0, .ref (arf 0)), (1, .int x1), (2, .int x2)]) hx hb nd_Ref_lock_144 hl (by decide) rfl (fun ls hl => ?_)
                  have hl := lv_sub hl [2, 4, 1, 0] rfl
                  have lp_146 : ∀ (n_146 : Nat) (v3_146 : Int32) (v4_146 : Int32), (1 ≤ v4_146.toInt ∧ v4_146.toInt ≤ 4) → (0 ≤ v3_146.toInt ∧ v3_146.toInt ≤ 3) → (4 < v4_146.toInt + (n_146 : Int)) → lo_Ref_lock_146 rfq_18 lat ln x1 x2 n_146 v3_146 v4_146 = tgt → ∀ (H : Heap) (locs : List Loc), va_P (dC, dI) vwCl (cw_Ref cI cZ cJ arf rfq_18 lat ln) H → va_D A (cw_Ref cI cZ cJ arf rfq_18 lat ln) → va_S A s.heap H locs → ∀ ls : Array Slot, lv_has ls 5 [(0, .ref (arf 0)), (2, .int x2), (3, .int v3_146), (4, .int v4_146)] → W p l e (headSpec nw_Ref_lock ({ frames := 1, cells := 0, slots := 0, locals := 23 } : Room)).room s m ([.ref (arf 0), .int x1, .int x2] : List Value).toArray below meth c H locs 0 0 (MQ below (pq_Ref_lock dC dI cI cZ cJ arf rf lat ln x1 x2 A) ([.ref (arf 0), .int x1, .int x2] : List Value).toArray s 0 0 A) (F0 m 146 ls []) := by
                    intro n_146
                    induction n_146 with
                    | zero =>
                      intro v3_146 v4_146 hv4_146 hv3_146 hn_146
                      exfalso; omega
                    | succ n_146 ih_146 =>
                      intro v3_146 v4_146 hv4_146 hv3_146 hn_146 hM H locs hP hD hS ls hl
                      have hn_146 : 4 < v4_146.toInt + ((n_146 : Int) + 1) := by omega
                      rw [lo_Ref_lock_146] at hM
                      refine lv_iload hx hb nd_Ref_lock_146 (lv_at hl 3 rfl) ?_
                      refine lv_iconst (v := 4) hx hb nd_Ref_lock_148 (by decide) ?_
                      refine lv_icmp_ge (tgt := 193) hx hb nd_Ref_lock_149 (by decide) (fun c_19 => ?_) (fun c_19 => ?_)
                      · have c_19t := cr_le c_19
                        rw [if_pos c_19] at hM
                        refine lv_iload_n hx hb nd_Ref_lock_193 rfl (lv_at hl 2 rfl) ?_
                        refine lv_if_le (tgt := 211) hx hb nd_Ref_lock_194 (by decide) (fun c_20 => ?_) (fun c_20 => ?_)
                        · have c_20t := cr_le c_20
                          rw [if_pos c_20] at hM
                          refine lv_iconst (v := 1) hx hb nd_Ref_lock_211 (by decide) ?_
                          exact W.iret (v := (1 : Int32)) hx hb hr (fun t ht hW => ⟨⟨(1 : Int32), rfq_18, rfl, ⟨by rw [hT, ← hM], by rw [hT, ← hM], hR_17⟩, by rw [ht]; exact hP, va_K.moved hW.alike hK, hD⟩, hS.F ht⟩) hS.2.2 nd_Ref_lock_212
                        · have c_20t := cr_nle c_20
                          rw [if_neg c_20] at hM
                          refine lv_aload_n hx hb nd_Ref_lock_197 rfl (lv_at hl 0 rfl) ?_
                          refine va_get (D := (dC, dI)) (ci := 5) (v := .ref (arf 11)) (C := "CeilingRowsModel") (T := nf_Ref) (N := 22) hx hb hts nin_Ref hown hK hP 0 rfl rfl 14 (by decide) (hts _ tw_427) (fun _ h9 => h9) rfl nd_Ref_lock_198 ?_
                          refine lv_iload_n hx hb nd_Ref_lock_201 rfl (lv_at hl 2 rfl) ?_
                          refine lv_iconst (v := 0) hx hb nd_Ref_lock_202 (by decide) ?_
                          have b_21 : vp_in v3_146 4 := vp_in_iff.mpr (by omega)
                          refine va_iast hx hb hK hP hD hS 11 0 rfl rfl b_21 nd_Ref_lock_203 (fun H locs hP hD hS => ?_)
                          have hP : va_P (dC, dI) vwCl (cw_Ref cI cZ cJ arf (cr_up rfq_18 11 v3_146.toNatClampNeg (0 : Int32)) lat ln) H := hP
                          have hD : va_D A (cw_Ref cI cZ cJ arf (cr_up rfq_18 11 v3_146.toNatClampNeg (0 : Int32)) lat ln) := hD
                          have hR_22 : cr_RRef (cr_up rfq_18 11 v3_146.toNatClampNeg (0 : Int32)) := ⟨cr_rf_up hR_17.1 (fun e _ => absurd e (by decide)), cr_rf_up hR_17.2.1 (fun e _ => absurd e (by decide)), cr_rg_up hR_17.2.2.1 (fun e => absurd e (by decide)), cr_rg_up hR_17.2.2.2.1 (fun e => absurd e (by decide)), cr_rg_up hR_17.2.2.2.2.1 (fun _ => by omega), cr_rh_up hR_17.2.2.2.2.2 (fun e => absurd e (by decide))⟩
                          obtain ⟨rfq_23, hrfq_23⟩ : ∃ z, (cr_up rfq_18 11 v3_146.toNatClampNeg (0 : Int32)) = z := ⟨_, rfl⟩
                          rw [hrfq_23] at hP hD hR_22
                          try rw [hrfq_23] at hM
                          refine lv_aload_n hx hb nd_Ref_lock_204 rfl (lv_at hl 0 rfl) ?_
                          refine lv_iload_n hx hb nd_Ref_lock_205 rfl (lv_at hl 2 rfl) ?_
                          refine lv_iload_n hx hb nd_Ref_lock_206 rfl (lv_at hl 1 rfl) ?_
                          refine lv_ineg hx hb nd_Ref_lock_207 ?_
                          have e_24 : (-x2).toInt = -(x2.toInt) := cr_neg (by omega)
                          have hPc := hP
                          have hDc := hD
                          have hFc := va_free (wc := cw_Ref cI cZ cJ arf rfq_23 lat ln) hD hS hA [0, 1, 2, 3, 4, 5, 6, 7, 8, 9, 10, 11, 12, 13, 14, 15, 16, 17] rfl
                          refine va_callv (va_runV (As := [.int v3_146, .int (-x2)]) (rest := []) ⟨hx, hb, hml, hown, hts⟩ (ct_Ref_have l dC dI cI cZ cJ arf H.size rfq_23 lat ln v3_146 (-x2) hR_22 (by omega) (by omega)) (cwV 2 hts (ng_V tw_564 tw_566 tp_28 tw_6 tw_567) rfl rfl rfl (by decide +kernel) ⟨Nat.le_of_ble_eq_true rfl, Nat.le_of_ble_eq_true rfl⟩) ⟨fun a U g mk q => by obtain ⟨q0, q1, qP, qK, qD⟩ := q; exact ⟨q0, q1, qP, va_K.moved (u := U) (U := U.calling g mk a) (Vm.Alike.refl U.vm) qK, qD⟩, va_recv hK hPc (ci := 5) (q0 := 0) rfl rfl, fun U hU hW => ⟨rfl, by rw [hU], by rw [hU]; exact hPc, va_K.moved hW.alike hK, hDc.weaken (fun _ _ _ _ => trivial)⟩⟩ rfl rfl hl.1 rfl (lv_room (Nat.le_of_ble_eq_true rfl)) nd_Ref_lock_208 ⟨Nat.zero_le _, Nat.zero_le _⟩) hS (fun q _ h => hFc q h) hFc (fun u t H1 locs ht hvm hw hB hz1 hk1 hS => ?_)
                          obtain ⟨hP1, hK1, hD1⟩ := hB
                          rw [ht] at hP1
                          obtain ⟨rfq_26, rfl⟩ : ∃ z, z = u := ⟨_, rfl⟩
                          obtain ⟨w_27, hR_28⟩ := hw
                          try rw [← w_27] at hM
                          have hP := hP1
                          have hD := cr_Dw hD1 hFc
                          generalize H1 = H at hP hS ⊢
                          refine lv_iconst (v := 1) hx hb nd_Ref_lock_211 (by decide) ?_
                          exact W.iret (v := (1 : Int32)) hx hb hr (fun t ht hW => ⟨⟨(1 : Int32), rfq_26, rfl, ⟨by rw [hT, ← hM], by rw [hT, ← hM], hR_28⟩, by rw [ht]; exact hP, va_K.moved hW.alike hK, hD⟩, hS.F ht⟩) hS.2.2 nd_Ref_lock_212
                      · have c_19t := cr_nle c_19
                        rw [if_neg c_19] at hM
                        refine lv_aload_n hx hb nd_Ref_lock_152 rfl (lv_at hl 0 rfl) ?_
                        refine va_get (D := (dC, dI)) (ci := 5) (v := .ref (arf 11)) (C := "CeilingRowsModel") (T := nf_Ref) (N := 22) hx hb hts nin_Ref hown hK hP 0 rfl rfl 14 (by decide) (hts _ tw_427) (fun _ h9 => h9) rfl nd_Ref_lock_153 ?_
                        refine lv_iload hx hb nd_Ref_lock_156 (lv_at hl 3 rfl) ?_
                        have b_29 : vp_in v4_146 4 := vp_in_iff.mpr (by omega)
                        refine va_iald hx hb hK hP 11 0 rfl rfl b_29 nd_Ref_lock_158 ?_
                        have f_30 := cr_rgo hR_17.2.2.2.2.1 (v4_146.toNatClampNeg)
                        refine lv_iload_n hx hb nd_Ref_lock_159 rfl (lv_at hl 1 rfl) ?_
                        refine lv_ineg hx hb nd_Ref_lock_160 ?_
                        have e_31 : (-x2).toInt = -(x2.toInt) := cr_neg (by omega)
                        refine lv_icmp_ne (tgt := 187) hx hb nd_Ref_lock_161 (by decide) (fun c_32 => ?_) (fun c_32 => ?_)
                        · have c_32t := cr_ne c_32
                          rw [if_neg c_32] at hM
                          have e_33 : (v4_146 + (1 : Int32)).toInt = v4_146.toInt + (1 : Int32).toInt := cr_add (by omega)
                          refine lv_iinc (v := (v4_146 + (1 : Int32))) (lv' := [(4, .int (v4_146 + (1 : Int32))), (0, .ref (arf 0)), (2, .int x2), (3, .int v3_146)]) hx hb nd_Ref_lock_187 hl (k := 3) rfl (by rfl) (by decide) rfl (fun ls hl => ?_)
                          refine lv_goto (tgt := 146) hx hb nd_Ref_lock_190 (by decide) ?_
                          exact ih_146 v3_146 (v4_146 + (1 : Int32)) (by omega) (by omega) (by omega) hM _ _ hP hD hS _ (lv_sub hl [1, 2, 3, 0] rfl)
                        · have c_32t := cr_eq c_32
                          rw [if_pos c_32] at hM
                          refine lv_iload_n hx hb nd_Ref_lock_164 rfl (lv_at hl 2 rfl) ?_
                          refine lv_if_eq (tgt := 184) hx hb nd_Ref_lock_165 (by decide) (fun c_34 => ?_) (fun c_34 => ?_)
                          · have c_34t := cr_eq c_34
                            rw [if_pos c_34] at hM
                            refine lv_iload hx hb nd_Ref_lock_184 (lv_at hl 3 rfl) ?_
                            refine lv_istore_n (lv' := [(3, .int v4_146), (0, .ref (arf 0)), (2, .int x2), (4, .int v4_146)]) hx hb nd_Ref_lock_186 rfl hl (by decide) rfl (fun ls hl => ?_)
                            have e_35 : (v4_146 + (1 : Int32)).toInt = v4_146.toInt + (1 : Int32).toInt := cr_add (by omega)
                            refine lv_iinc (v := (v4_146 + (1 : Int32))) (lv' := [(4, .int (v4_146 + (1 : Int32))), (3, .int v4_146), (0, .ref (arf 0)), (2, .int x2)]) hx hb nd_Ref_lock_187 hl (k := 3) rfl (by rfl) (by decide) rfl (fun ls hl => ?_)
                            refine lv_goto (tgt := 146) hx hb nd_Ref_lock_190 (by decide) ?_
                            exact ih_146 v4_146 (v4_146 + (1 : Int32)) (by omega) (by omega) (by omega) hM _ _ hP hD hS _ (lv_sub hl [2, 3, 1, 0] rfl)
                          · have c_34t := cr_ne c_34
                            rw [if_neg c_34] at hM
                            refine lv_aload_n hx hb nd_Ref_lock_168 rfl (lv_at hl 0 rfl) ?_
                            refine va_get (D := (dC, dI)) (ci := 5) (v := .ref (arf 12)) (C := "CeilingRowsModel") (T := nf_Ref) (N := 22) hx hb hts nin_Ref hown hK hP 0 rfl rfl 15 (by decide) (hts _ tw_428) (fun _ h9 => h9) rfl nd_Ref_lock_169 ?_
                            refine lv_iload hx hb nd_Ref_lock_172 (lv_at hl 3 rfl) ?_
                            have b_36 : vp_in v4_146 4 := vp_in_iff.mpr (by omega)
                            refine va_iald hx hb hK hP 12 0 rfl rfl b_36 nd_Ref_lock_174 ?_
                            refine lv_aload_n hx hb nd_Ref_lock_175 rfl (lv_at hl 0 rfl) ?_
                            refine va_get (D := (dC, dI)) (ci := 5) (v := .ref (arf 12)) (C := "CeilingRowsModel") (T := nf_Ref) (N := 22) hx hb hts nin_Ref hown hK hP 0 rfl rfl 15 (by decide) (hts _ tw_428) (fun _ h9 => h9) rfl nd_Ref_lock_176 ?_
                            refine lv_iload_n hx hb nd_Ref_lock_179 rfl (lv_at hl 2 rfl) ?_
                            have b_37 : vp_in v3_146 4 := vp_in_iff.mpr (by omega)
                            refine va_iald hx hb hK hP 12 0 rfl rfl b_37 nd_Ref_lock_180 ?_
                            refine lv_icmp_ge (tgt := 187) hx hb nd_Ref_lock_181 (by decide) (fun c_38 => ?_) (fun c_38 => ?_)
                            · have c_38t := cr_le c_38
                              rw [if_pos c_38] at hM
                              have e_39 : (v4_146 + (1 : Int32)).toInt = v4_146.toInt + (1 : Int32).toInt := cr_add (by omega)
                              refine lv_iinc (v := (v4_146 + (1 : Int32))) (lv' := [(4, .int (v4_146 + (1 : Int32))), (0, .ref (arf 0)), (2, .int x2), (3, .int v3_146)]) hx hb nd_Ref_lock_187 hl (k := 3) rfl (by rfl) (by decide) rfl (fun ls hl => ?_)
                              refine lv_goto (tgt := 146) hx hb nd_Ref_lock_190 (by decide) ?_
                              exact ih_146 v3_146 (v4_146 + (1 : Int32)) (by omega) (by omega) (by omega) hM _ _ hP hD hS _ (lv_sub hl [1, 2, 3, 0] rfl)
                            · have c_38t := cr_nle c_38
                              rw [if_neg c_38] at hM
                              refine lv_iload hx hb nd_Ref_lock_184 (lv_at hl 3 rfl) ?_
                              refine lv_istore_n (lv' := [(3, .int v4_146), (0, .ref (arf 0)), (2, .int x2), (4, .int v4_146)]) hx hb nd_Ref_lock_186 rfl hl (by decide) rfl (fun ls hl => ?_)
                              have e_40 : (v4_146 + (1 : Int32)).toInt = v4_146.toInt + (1 : Int32).toInt := cr_add (by omega)
                              refine lv_iinc (v := (v4_146 + (1 : Int32))) (lv' := [(4, .int (v4_146 + (1 : Int32))), (3, .int v4_146), (0, .ref (arf 0)), (2, .int x2)]) hx hb nd_Ref_lock_187 hl (k := 3) rfl (by rfl) (by decide) rfl (fun ls hl => ?_)
                              refine lv_goto (tgt := 146) hx hb nd_Ref_lock_190 (by decide) ?_
                              exact ih_146 v4_146 (v4_146 + (1 : Int32)) (by omega) (by omega) (by omega) hM _ _ hP hD hS _ (lv_sub hl [2, 3, 1, 0] rfl)
                  exact lp_146 4 (0 : Int32) (1 : Int32) (by omega) (by omega) (by omega) hM _ _ hP hD hS _ hl
                · have c_14t := cr_ne c_14
                  rw [if_neg c_14] at hM
                  refine lv_bipush (v := -17) hx hb nd_Ref_lock_130 (by decide) ?_
                  exact W.iret (v := (-17 : Int32)) hx hb hr (fun t ht hW => ⟨⟨(-17 : Int32), rf, rfl, ⟨by rw [hT, ← hM], by rw [hT, ← hM], hR_rf⟩, by rw [ht]; exact hP, va_K.moved hW.alike hK, hD⟩, hS.F ht⟩) hS.2.2 nd_Ref_lock_132
              · have c_9t := cr_nle c_9
                rw [if_neg c_9] at hM
                refine lv_iload_n hx hb nd_Ref_lock_47 rfl (lv_at hl 2 rfl) ?_
                refine lv_istore_n (lv' := [(3, .int x2), (0, .ref (arf 0)), (1, .int x1), (2, .int x2)]) hx hb nd_Ref_lock_48 rfl hl (by decide) rfl (fun ls hl => ?_)
                have hl := lv_sub hl [1, 2, 3, 0] rfl
                have lp_49 : ∀ (n_49 : Nat) (v3_49 : Int32), (1 ≤ v3_49.toInt ∧ v3_49.toInt ≤ 9) → (9 < v3_49.toInt + (n_49 : Int)) → lo_Ref_lock_49 rf lat ln x1 x2 n_49 v3_49 = tgt → ∀ (H : Heap) (locs : List Loc), va_P (dC, dI) vwCl (cw_Ref cI cZ cJ arf rf lat ln) H → va_D A (cw_Ref cI cZ cJ arf rf lat ln) → va_S A s.heap H locs → ∀ ls : Array Slot, lv_has ls 5 [(0, .ref (arf 0)), (1, .int x1), (2, .int x2), (3, .int v3_49)] → W p l e (headSpec nw_Ref_lock ({ frames := 1, cells := 0, slots := 0, locals := 23 } : Room)).room s m ([.ref (arf 0), .int x1, .int x2] : List Value).toArray below meth c H locs 0 0 (MQ below (pq_Ref_lock dC dI cI cZ cJ arf rf lat ln x1 x2 A) ([.ref (arf 0), .int x1, .int x2] : List Value).toArray s 0 0 A) (F0 m 49 ls []) := by
                  intro n_49
                  induction n_49 with
                  | zero =>
                    intro v3_49 hv3_49 hn_49
                    exfalso; omega
                  | succ n_49 ih_49 =>
                    intro v3_49 hv3_49 hn_49 hM H locs hP hD hS ls hl
                    have hn_49 : 9 < v3_49.toInt + ((n_49 : Int) + 1) := by omega
                    rw [lo_Ref_lock_49] at hM
                    refine lv_iload_n hx hb nd_Ref_lock_49 rfl (lv_at hl 3 rfl) ?_
                    refine lv_bipush (v := 9) hx hb nd_Ref_lock_50 (by decide) ?_
                    refine lv_icmp_ge (tgt := 74) hx hb nd_Ref_lock_52 (by decide) (fun c_41 => ?_) (fun c_41 => ?_)
                    · have c_41t := cr_le c_41
                      rw [if_pos c_41] at hM
                      refine lv_aload_n hx hb nd_Ref_lock_74 rfl (lv_at hl 0 rfl) ?_
                      refine va_get (D := (dC, dI)) (ci := 5) (v := .ref (arf 9)) (C := "CeilingRowsModel") (T := nf_Ref) (N := 22) hx hb hts nin_Ref hown hK hP 0 rfl rfl 12 (by decide) (hts _ tw_425) (fun _ h9 => h9) rfl nd_Ref_lock_75 ?_
                      refine lv_iload_n hx hb nd_Ref_lock_78 rfl (lv_at hl 2 rfl) ?_
                      have b_42 : vp_in x2 9 := vp_in_iff.mpr (by omega)
                      refine va_iald hx hb hK hP 9 0 rfl rfl b_42 nd_Ref_lock_79 ?_
                      have f_43 := cr_rgo hR_rf.2.2.2.1 (x2.toNatClampNeg)
                      refine lv_if_le (tgt := 112) hx hb nd_Ref_lock_80 (by decide) (fun c_44 => ?_) (fun c_44 => ?_)
                      · have c_44t := cr_le c_44
                        rw [if_pos c_44] at hM
                        refine lv_aload_n hx hb nd_Ref_lock_112 rfl (lv_at hl 0 rfl) ?_
                        refine lv_iload_n hx hb nd_Ref_lock_113 rfl (lv_at hl 1 rfl) ?_
                        refine lv_iload_n hx hb nd_Ref_lock_114 rfl (lv_at hl 2 rfl) ?_
                        have hPc := hP
                        have hDc := hD
                        have hFc := va_free (wc := cw_Ref cI cZ cJ arf rf lat ln) hD hS hA [0, 1, 2, 3, 4, 5, 6, 7, 8, 9, 10, 11, 12, 13, 14, 15, 16, 17] rfl
                        refine va_callv (va_runV (As := [.int x1, .int x2]) (rest := []) ⟨hx, hb, hml, hown, hts⟩ (ct_Ref_have l dC dI cI cZ cJ arf H.size rf lat ln x1 x2 hR_rf (by omega) (by omega)) (cwV 2 hts (ng_V tw_564 tw_566 tp_28 tw_6 tw_567) rfl rfl rfl (by decide +kernel) ⟨Nat.le_of_ble_eq_true rfl, Nat.le_of_ble_eq_true rfl⟩) ⟨fun a U g mk q => by obtain ⟨q0, q1, qP, qK, qD⟩ := q; exact ⟨q0, q1, qP, va_K.moved (u := U) (U := U.calling g mk a) (Vm.Alike.refl U.vm) qK, qD⟩, va_recv hK hPc (ci := 5) (q0 := 0) rfl rfl, fun U hU hW => ⟨rfl, by rw [hU], by rw [hU]; exact hPc, va_K.moved hW.alike hK, hDc.weaken (fun _ _ _ _ => trivial)⟩⟩ rfl rfl hl.1 rfl (lv_room (Nat.le_of_ble_eq_true rfl)) nd_Ref_lock_115 ⟨Nat.zero_le _, Nat.zero_le _⟩) hS (fun q _ h => hFc q h) hFc (fun u t H1 locs ht hvm hw hB hz1 hk1 hS => ?_)
                        obtain ⟨hP1, hK1, hD1⟩ := hB
                        rw [ht] at hP1
                        obtain ⟨rfq_46, rfl⟩ : ∃ z, z = u := ⟨_, rfl⟩
                        obtain ⟨w_47, hR_48⟩ := hw
                        try rw [← w_47] at hM
                        have hP := hP1
                        have hD := cr_Dw hD1 hFc
                        generalize H1 = H at hP hS ⊢
                        refine lv_iconst (v := 1) hx hb nd_Ref_lock_118 (by decide) ?_
                        exact W.iret (v := (1 : Int32)) hx hb hr (fun t ht hW => ⟨⟨(1 : Int32), rfq_46, rfl, ⟨by rw [hT, ← hM], by rw [hT, ← hM], hR_48⟩, by rw [ht]; exact hP, va_K.moved hW.alike hK, hD⟩, hS.F ht⟩) hS.2.2 nd_Ref_lock_119
                      · have c_44t := cr_nle c_44
                        rw [if_neg c_44] at hM
                        refine lv_aload_n hx hb nd_Ref_lock_83 rfl (lv_at hl 0 rfl) ?_
                        refine lv_dup hx hb nd_Ref_lock_84 rfl ?_
                        refine va_get (D := (dC, dI)) (ci := 5) (v := .int (rf 0 3)) (C := "CeilingRowsModel") (T := nf_Ref) (N := 22) hx hb hts nin_Ref hown hK hP 0 rfl rfl 16 (by decide) (hts _ tw_429) (fun _ h9 => h9) rfl nd_Ref_lock_85 ?_
                        refine lv_iconst (v := 1) hx hb nd_Ref_lock_88 (by decide) ?_
                        refine lv_iadd hx hb nd_Ref_lock_89 ?_
                        refine va_put (D := (dC, dI)) (ci := 5) (v := .int ((rf 0 3) + (1 : Int32))) (ty := .int) (C := "CeilingRowsModel") (T := nf_Ref) (N := 22) hx hb hts nin_Ref nt_Ref nto_Ref nno_Ref hown hK hP hD hS 0 rfl rfl 16 (by decide) (hts _ tw_429) (fun _ h9 => h9) rfl (by decide +kernel) rfl rfl (Nat.le_of_ble_eq_true rfl) nd_Ref_lock_90 (fun H locs hP hD hS => ?_)
                        have hP : va_P (dC, dI) vwCl (cw_Ref cI cZ cJ arf (cr_up rf 0 3 ((rf 0 3) + (1 : Int32))) lat ln) H := hP
                        have hD : va_D A (cw_Ref cI cZ cJ arf (cr_up rf 0 3 ((rf 0 3) + (1 : Int32))) lat ln) := hD
                        have hR_49 : cr_RRef (cr_up rf 0 3 ((rf 0 3) + (1 : Int32))) := ⟨cr_rf_up hR_rf.1 (fun _ e => absurd e (by decide)), cr_rf_up hR_rf.2.1 (fun _ e => absurd e (by decide)), cr_rg_up hR_rf.2.2.1 (fun e => absurd e (by decide)), cr_rg_up hR_rf.2.2.2.1 (fun e => absurd e (by decide)), cr_rg_up hR_rf.2.2.2.2.1 (fun e => absurd e (by decide)), cr_rh_up hR_rf.2.2.2.2.2 (fun e => absurd e (by decide))⟩
                        obtain ⟨rfq_50, hrfq_50⟩ : ∃ z, (cr_up rf 0 3 ((rf 0 3) + (1 : Int32))) = z := ⟨_, rfl⟩
                        rw [hrfq_50] at hP hD hR_49
                        try rw [hrfq_50] at hM
                        refine lv_aload_n hx hb nd_Ref_lock_93 rfl (lv_at hl 0 rfl) ?_
                        refine va_get (D := (dC, dI)) (ci := 5) (v := .ref (arf 11)) (C := "CeilingRowsModel") (T := nf_Ref) (N := 22) hx hb hts nin_Ref hown hK hP 0 rfl rfl 14 (by decide) (hts _ tw_427) (fun _ h9 => h9) rfl nd_Ref_lock_94 ?_
                        refine lv_iload_n hx hb nd_Ref_lock_97 rfl (lv_at hl 1 rfl) ?_
                        refine lv_iload_n hx hb nd_Ref_lock_98 rfl (lv_at hl 2 rfl) ?_
                        have b_51 : vp_in x1 4 := vp_in_iff.mpr (by omega)
                        refine va_iast hx hb hK hP hD hS 11 0 rfl rfl b_51 nd_Ref_lock_99 (fun H locs hP hD hS => ?_)
                        have hP : va_P (dC, dI) vwCl (cw_Ref cI cZ cJ arf (cr_up rfq_50 11 x1.toNatClampNeg x2) lat ln) H := hP
                        have hD : va_D A (cw_Ref cI cZ cJ arf (cr_up rfq_50 11 x1.toNatClampNeg x2) lat ln) := hD
                        have hR_52 : cr_RRef (cr_up rfq_50 11 x1.toNatClampNeg x2) := ⟨cr_rf_up hR_49.1 (fun e _ => absurd e (by decide)), cr_rf_up hR_49.2.1 (fun e _ => absurd e (by decide)), cr_rg_up hR_49.2.2.1 (fun e => absurd e (by decide)), cr_rg_up hR_49.2.2.2.1 (fun e => absurd e (by decide)), cr_rg_up hR_49.2.2.2.2.1 (fun _ => by omega), cr_rh_up hR_49.2.2.2.2.2 (fun e => absurd e (by decide))⟩
                        obtain ⟨rfq_53, hrfq_53⟩ : ∃ z, (cr_up rfq_50 11 x1.toNatClampNeg x2) = z := ⟨_, rfl⟩
                        rw [hrfq_53] at hP hD hR_52
                        try rw [hrfq_53] at hM
                        refine lv_aload_n hx hb nd_Ref_lock_100 rfl (lv_at hl 0 rfl) ?_
                        refine va_get (D := (dC, dI)) (ci := 5) (v := .ref (arf 12)) (C := "CeilingRowsModel") (T := nf_Ref) (N := 22) hx hb hts nin_Ref hown hK hP 0 rfl rfl 15 (by decide) (hts _ tw_428) (fun _ h9 => h9) rfl nd_Ref_lock_101 ?_
                        refine lv_iload_n hx hb nd_Ref_lock_104 rfl (lv_at hl 1 rfl) ?_
                        refine lv_aload_n hx hb nd_Ref_lock_105 rfl (lv_at hl 0 rfl) ?_
                        refine va_get (D := (dC, dI)) (ci := 5) (v := .int (rfq_53 0 3)) (C := "CeilingRowsModel") (T := nf_Ref) (N := 22) hx hb hts nin_Ref hown hK hP 0 rfl rfl 16 (by decide) (hts _ tw_429) (fun _ h9 => h9) rfl nd_Ref_lock_106 ?_
                        have b_54 : vp_in x1 4 := vp_in_iff.mpr (by omega)
                        refine va_iast hx hb hK hP hD hS 12 0 rfl rfl b_54 nd_Ref_lock_109 (fun H locs hP hD hS => ?_)
                        have hP : va_P (dC, dI) vwCl (cw_Ref cI cZ cJ arf (cr_up rfq_53 12 x1.toNatClampNeg (rfq_53 0 3)) lat ln) H := hP
                        have hD : va_D A (cw_Ref cI cZ cJ arf (cr_up rfq_53 12 x1.toNatClampNeg (rfq_53 0 3)) lat ln) := hD
                        have hR_55 : cr_RRef (cr_up rfq_53 12 x1.toNatClampNeg (rfq_53 0 3)) := ⟨cr_rf_up hR_52.1 (fun e _ => absurd e (by decide)), cr_rf_up hR_52.2.1 (fun e _ => absurd e (by decide)), cr_rg_up hR_52.2.2.1 (fun e => absurd e (by decide)), cr_rg_up hR_52.2.2.2.1 (fun e => absurd e (by decide)), cr_rg_up hR_52.2.2.2.2.1 (fun e => absurd e (by decide)), cr_rh_up hR_52.2.2.2.2.2 (fun e => absurd e (by decide))⟩
                        obtain ⟨rfq_56, hrfq_56⟩ : ∃ z, (cr_up rfq_53 12 x1.toNatClampNeg (rfq_53 0 3)) = z := ⟨_, rfl⟩
                        rw [hrfq_56] at hP hD hR_55
                        try rw [hrfq_56] at hM
                        refine lv_iconst (v := 0) hx hb nd_Ref_lock_110 (by decide) ?_
                        exact W.iret (v := (0 : Int32)) hx hb hr (fun t ht hW => ⟨⟨(0 : Int32), rfq_56, rfl, ⟨by rw [hT, ← hM], by rw [hT, ← hM], hR_55⟩, by rw [ht]; exact hP, va_K.moved hW.alike hK, hD⟩, hS.F ht⟩) hS.2.2 nd_Ref_lock_111
                    · have c_41t := cr_nle c_41
                      rw [if_neg c_41] at hM
                      refine lv_aload_n hx hb nd_Ref_lock_55 rfl (lv_at hl 0 rfl) ?_
                      refine va_get (D := (dC, dI)) (ci := 5) (v := .ref (arf 9)) (C := "CeilingRowsModel") (T := nf_Ref) (N := 22) hx hb hts nin_Ref hown hK hP 0 rfl rfl 12 (by decide) (hts _ tw_425) (fun _ h9 => h9) rfl nd_Ref_lock_56 ?_
                      refine lv_iload_n hx hb nd_Ref_lock_59 rfl (lv_at hl 3 rfl) ?_
                      have b_57 : vp_in v3_49 9 := vp_in_iff.mpr (by omega)
                      refine va_iald hx hb hK hP 9 0 rfl rfl b_57 nd_Ref_lock_60 ?_
                      have f_58 := cr_rgo hR_rf.2.2.2.1 (v3_49.toNatClampNeg)
                      refine lv_iload_n hx hb nd_Ref_lock_61 rfl (lv_at hl 1 rfl) ?_
                      refine lv_icmp_ne (tgt := 68) hx hb nd_Ref_lock_62 (by decide) (fun c_59 => ?_) (fun c_59 => ?_)
                      · have c_59t := cr_ne c_59
                        rw [if_neg c_59] at hM
                        have e_60 : (v3_49 + (1 : Int32)).toInt = v3_49.toInt + (1 : Int32).toInt := cr_add (by omega)
                        refine lv_iinc (v := (v3_49 + (1 : Int32))) (lv' := [(3, .int (v3_49 + (1 : Int32))), (0, .ref (arf 0)), (1, .int x1), (2, .int x2)]) hx hb nd_Ref_lock_68 hl (k := 3) rfl (by rfl) (by decide) rfl (fun ls hl => ?_)
                        refine lv_goto (tgt := 49) hx hb nd_Ref_lock_71 (by decide) ?_
                        exact ih_49 (v3_49 + (1 : Int32)) (by omega) (by omega) hM _ _ hP hD hS _ (lv_sub hl [1, 2, 3, 0] rfl)
                      · have c_59t := cr_eq c_59
                        rw [if_pos c_59] at hM
                        refine lv_bipush (v := -16) hx hb nd_Ref_lock_65 (by decide) ?_
                        exact W.iret (v := (-16 : Int32)) hx hb hr (fun t ht hW => ⟨⟨(-16 : Int32), rf, rfl, ⟨by rw [hT, ← hM], by rw [hT, ← hM], hR_rf⟩, by rw [ht]; exact hP, va_K.moved hW.alike hK, hD⟩, hS.F ht⟩) hS.2.2 nd_Ref_lock_67
                exact lp_49 9 x2 (by omega) (by omega) hM _ _ hP hD hS _ hl
            · have c_8t := cr_nle c_8
              rw [if_neg c_8] at hM
              refine lv_bipush (v := -3) hx hb nd_Ref_lock_40 (by decide) ?_
              exact W.iret (v := (-3 : Int32)) hx hb hr (fun t ht hW => ⟨⟨(-3 : Int32), rf, rfl, ⟨by rw [hT, ← hM], by rw [hT, ← hM], hR_rf⟩, by rw [ht]; exact hP, va_K.moved hW.alike hK, hD⟩, hS.F ht⟩) hS.2.2 nd_Ref_lock_42
          · have c_5t := cr_eq c_5
            rw [if_pos c_5] at hM
            refine lv_bipush (v := -2) hx hb nd_Ref_lock_28 (by decide) ?_
            exact W.iret (v := (-2 : Int32)) hx hb hr (fun t ht hW => ⟨⟨(-2 : Int32), rf, rfl, ⟨by rw [hT, ← hM], by rw [hT, ← hM], hR_rf⟩, by rw [ht]; exact hP, va_K.moved hW.alike hK, hD⟩, hS.F ht⟩) hS.2.2 nd_Ref_lock_30
    · have c_2t := cr_nle c_2
      rw [if_neg c_2] at hM
      refine lv_iconst (v := -1) hx hb nd_Ref_lock_10 (by decide) ?_
      exact W.iret (v := (-1 : Int32)) hx hb hr (fun t ht hW => ⟨⟨(-1 : Int32), rf, rfl, ⟨by rw [hT, ← hM], by rw [hT, ← hM], hR_rf⟩, by rw [ht]; exact hP, va_K.moved hW.alike hK, hD⟩, hS.F ht⟩) hS.2.2 nd_Ref_lock_11

theorem nd_Ref_ring_0 : decode prog_7_method_24_code 0 = .ok (.iconst 0, 1) := by decide +kernel
theorem nd_Ref_ring_1 : decode prog_7_method_24_code 1 = .ok (.istore_n 1, 1) := by decide +kernel
theorem nd_Ref_ring_2 : decode prog_7_method_24_code 2 = .ok (.iconst 1, 1) := by decide +kernel
theorem nd_Ref_ring_3 : decode prog_7_method_24_code 3 = .ok (.istore_n 2, 1) := by decide +kernel
theorem nd_Ref_ring_4 : decode prog_7_method_24_code 4 = .ok (.iload_n 2, 1) := by decide +kernel
theorem nd_Ref_ring_5 : decode prog_7_method_24_code 5 = .ok (.iconst 4, 1) := by decide +kernel
theorem nd_Ref_ring_6 : decode prog_7_method_24_code 6 = .ok (.if_icmp .ge (66), 3) := by decide +kernel
theorem nd_Ref_ring_9 : decode prog_7_method_24_code 9 = .ok (.iload_n 2, 1) := by decide +kernel
theorem nd_Ref_ring_10 : decode prog_7_method_24_code 10 = .ok (.istore_n 3, 1) := by decide +kernel
theorem nd_Ref_ring_11 : decode prog_7_method_24_code 11 = .ok (.iconst 0, 1) := by decide +kernel
theorem nd_Ref_ring_12 : decode prog_7_method_24_code 12 = .ok (.istore 4, 2) := by decide +kernel
theorem nd_Ref_ring_14 : decode prog_7_method_24_code 14 = .ok (.iload 4, 2) := by decide +kernel
theorem nd_Ref_ring_16 : decode prog_7_method_24_code 16 = .ok (.iconst 3, 1) := by decide +kernel
theorem nd_Ref_ring_17 : decode prog_7_method_24_code 17 = .ok (.if_icmp .ge (49), 3) := by decide +kernel
theorem nd_Ref_ring_20 : decode prog_7_method_24_code 20 = .ok (.aload_n 0, 1) := by decide +kernel
theorem nd_Ref_ring_21 : decode prog_7_method_24_code 21 = .ok (.getfield 42, 3) := by decide +kernel
theorem nd_Ref_ring_24 : decode prog_7_method_24_code 24 = .ok (.iload_n 3, 1) := by decide +kernel
theorem nd_Ref_ring_25 : decode prog_7_method_24_code 25 = .ok (.iaload, 1) := by decide +kernel
theorem nd_Ref_ring_26 : decode prog_7_method_24_code 26 = .ok (.ifCond .le (17), 3) := by decide +kernel
theorem nd_Ref_ring_29 : decode prog_7_method_24_code 29 = .ok (.aload_n 0, 1) := by decide +kernel
theorem nd_Ref_ring_30 : decode prog_7_method_24_code 30 = .ok (.getfield 36, 3) := by decide +kernel
theorem nd_Ref_ring_33 : decode prog_7_method_24_code 33 = .ok (.aload_n 0, 1) := by decide +kernel
theorem nd_Ref_ring_34 : decode prog_7_method_24_code 34 = .ok (.getfield 42, 3) := by decide +kernel
theorem nd_Ref_ring_37 : decode prog_7_method_24_code 37 = .ok (.iload_n 3, 1) := by decide +kernel
theorem nd_Ref_ring_38 : decode prog_7_method_24_code 38 = .ok (.iaload, 1) := by decide +kernel
theorem nd_Ref_ring_39 : decode prog_7_method_24_code 39 = .ok (.iaload, 1) := by decide +kernel
theorem nd_Ref_ring_40 : decode prog_7_method_24_code 40 = .ok (.goto (4), 3) := by decide +kernel
theorem nd_Ref_ring_43 : decode prog_7_method_24_code 43 = .ok (.iconst 0, 1) := by decide +kernel
theorem nd_Ref_ring_44 : decode prog_7_method_24_code 44 = .ok (.istore_n 3, 1) := by decide +kernel
theorem nd_Ref_ring_45 : decode prog_7_method_24_code 45 = .ok (.iload_n 1, 1) := by decide +kernel
theorem nd_Ref_ring_46 : decode prog_7_method_24_code 46 = .ok (.ifCond .ne (8), 3) := by decide +kernel
theorem nd_Ref_ring_49 : decode prog_7_method_24_code 49 = .ok (.iload_n 3, 1) := by decide +kernel
theorem nd_Ref_ring_50 : decode prog_7_method_24_code 50 = .ok (.iload_n 2, 1) := by decide +kernel
theorem nd_Ref_ring_51 : decode prog_7_method_24_code 51 = .ok (.if_icmp .ne (7), 3) := by decide +kernel
theorem nd_Ref_ring_54 : decode prog_7_method_24_code 54 = .ok (.iconst 1, 1) := by decide +kernel
theorem nd_Ref_ring_55 : decode prog_7_method_24_code 55 = .ok (.goto (4), 3) := by decide +kernel
theorem nd_Ref_ring_58 : decode prog_7_method_24_code 58 = .ok (.iconst 0, 1) := by decide +kernel
theorem nd_Ref_ring_59 : decode prog_7_method_24_code 59 = .ok (.istore_n 1, 1) := by decide +kernel
theorem nd_Ref_ring_60 : decode prog_7_method_24_code 60 = .ok (.iinc 4 1, 3) := by decide +kernel
theorem nd_Ref_ring_63 : decode prog_7_method_24_code 63 = .ok (.goto (-49), 3) := by decide +kernel
theorem nd_Ref_ring_66 : decode prog_7_method_24_code 66 = .ok (.iinc 2 1, 3) := by decide +kernel
theorem nd_Ref_ring_69 : decode prog_7_method_24_code 69 = .ok (.goto (-65), 3) := by decide +kernel
theorem nd_Ref_ring_72 : decode prog_7_method_24_code 72 = .ok (.iload_n 1, 1) := by decide +kernel
theorem nd_Ref_ring_73 : decode prog_7_method_24_code 73 = .ok (.ireturn, 1) := by decide +kernel
def lo_Ref_ring_14 (rf : cr_S) (lat : Int64) (ln : (Nat → Int64))  (w2 : Int32) : Nat → Int32 → Int32 → Int32 → Int32
  | 0, v1_14, _, _ => v1_14
  | n_14 + 1, v1_14, v3_14, v4_14 =>
    (if (3 : Int32) ≤ v4_14 then v1_14 else (if (rf 11 v3_14.toNatClampNeg) ≤ 0 then (if v1_14 = 0 then (if (0 : Int32) = w2 then (lo_Ref_ring_14 rf lat ln w2 n_14 (1 : Int32) (0 : Int32) (v4_14 + (1 : Int32))) else (lo_Ref_ring_14 rf lat ln w2 n_14 (0 : Int32) (0 : Int32) (v4_14 + (1 : Int32)))) else (lo_Ref_ring_14 rf lat ln w2 n_14 (1 : Int32) (0 : Int32) (v4_14 + (1 : Int32)))) else (if v1_14 = 0 then (if (rf 9 (rf 11 v3_14.toNatClampNeg).toNatClampNeg) = w2 then (lo_Ref_ring_14 rf lat ln w2 n_14 (1 : Int32) (rf 9 (rf 11 v3_14.toNatClampNeg).toNatClampNeg) (v4_14 + (1 : Int32))) else (lo_Ref_ring_14 rf lat ln w2 n_14 (0 : Int32) (rf 9 (rf 11 v3_14.toNatClampNeg).toNatClampNeg) (v4_14 + (1 : Int32)))) else (lo_Ref_ring_14 rf lat ln w2 n_14 (1 : Int32) (rf 9 (rf 11 v3_14.toNatClampNeg).toNatClampNeg) (v4_14 + (1 : Int32))))))
def lo_Ref_ring_4 (rf : cr_S) (lat : Int64) (ln : (Nat → Int64))  : Nat → Int32 → Int32 → Int32
  | 0, _, _ => 0
  | n_4 + 1, v1_4, v2_4 =>
    (if (4 : Int32) ≤ v2_4 then v1_4 else (lo_Ref_ring_4 rf lat ln n_4 (lo_Ref_ring_14 rf lat ln v2_4 4 v1_4 v2_4 (0 : Int32)) (v2_4 + (1 : Int32))))
def md_Ref_ring (rf : cr_S) (lat : Int64) (ln : (Nat → Int64)) : Int32 :=
  (lo_Ref_ring_4 rf lat ln 4 (0 : Int32) (1 : Int32))
abbrev pq_Ref_ring (dC : Nat → ClassId) (dI : Nat → Nat → Nat) (cI cZ cJ : ClassId) (arf : Nat → Nat) (rf : cr_S) (lat : Int64) (ln : (Nat → Int64))  (A : Nat → Prop) : Array Value → State → Outcome → State → Prop :=
  va_Qi (fun (r : Int32) (_ : Unit) => r = md_Ref_ring rf lat ln) (fun (_ : Unit) t => va_P (dC, dI) vwCl (cw_Ref cI cZ cJ arf rf lat ln) t.heap ∧ va_K (dC, dI) vwCl [(cI, .int), (cZ, .boolean), (cJ, .long)] t ∧ va_D A (cw_Ref cI cZ cJ arf rf lat ln)) A
set_option maxHeartbeats 4000000 in
set_option maxRecDepth 100000 in
theorem ct_Ref_ring (l : Launch) (dC : Nat → ClassId) (dI : Nat → Nat → Nat) (cI cZ cJ : ClassId) (arf : Nat → Nat) (sz : Nat) (rf : cr_S) (lat : Int64) (ln : (Nat → Int64))  (hR_rf : cr_RRef rf) : Met l ny_Ref_ring nw_Ref_ring ({ frames := 0, cells := 0, slots := 0, locals := 0 } : Room) (va_Pc [.ref (arf 0)] (fun U => U.heap.size = sz ∧ va_P (dC, dI) vwCl (cw_Ref cI cZ cJ arf rf lat ln) U.heap ∧ va_K (dC, dI) vwCl [(cI, .int), (cZ, .boolean), (cJ, .long)] U ∧ va_D (fun _ => True) (cw_Ref cI cZ cJ arf rf lat ln))) (pq_Ref_ring dC dI cI cZ cJ arf rf lat ln  (va_A (cw_Ref cI cZ cJ arf rf lat ln) sz)) 0 0 (va_A (cw_Ref cI cZ cJ arf rf lat ln) sz) := by
  refine Met.ofW (cc := prog_7_method_24_code) (maxL := 5) (ret := (some .boolean)) (by decide) rfl ?_
  intro p e s m args below meth c s₁ B hml hv
  obtain ⟨rfl, hsz, hP, hK, hD0⟩ := hv
  have hx := B.exec
  have hb := B.bytes
  have hr := B.returns
  have hts0 := atoms_spec (ws := nw_Ref_ring) B.pre
  have hts : ∀ w ∈ ng_tbl, w.before ([.ref (arf 0)] : List Value).toArray s = true := fun w h => hts0 w (List.mem_cons_of_mem _ h)
  have hown : s.vm.findClass "CeilingRowsModel" = some m.cls := findClass_of_methodNamed B.named
  have hlocks := B.notSynchronized
  subst hsz
  have hD := hD0.self (sz := s.heap.size)
  generalize hAe : va_A (cw_Ref cI cZ cJ arf rf lat ln) s.heap.size = A at hD ⊢
  have hA : ∀ q : Nat, s.heap.size ≤ q → A q := fun q h => by rw [← hAe]; exact Or.inr h
  have hS : va_S A s.heap s.heap [] := va_S.rf
  have hP : va_P (dC, dI) vwCl (cw_Ref cI cZ cJ arf rf lat ln) s.heap := hP
  have hl := lv_entry ([.ref (arf 0)]) (n := 5) (Nat.le_of_ble_eq_true rfl)
  rw [lg_entry_eq]
  generalize (lg_sl ([.ref (arf 0)]) ++ List.replicate (5 - (lg_sl ([.ref (arf 0)])).length) Slot.unset).toArray = ls at hl ⊢
  have hl : lv_has ls 5 [(0, .ref (arf 0))] := hl
  have f0_rf_0 := cr_rfo hR_rf.1
  have f0_rf_1 := cr_rfo hR_rf.2.1
  have k_0 : (0 : Int32).toInt = 0 := by decide
  have k_1 : (1 : Int32).toInt = 1 := by decide
  have k_3 : (3 : Int32).toInt = 3 := by decide
  have k_4 : (4 : Int32).toInt = 4 := by decide
  obtain ⟨tgt, hT⟩ : ∃ z, md_Ref_ring rf lat ln = z := ⟨_, rfl⟩
  have hM := hT
  unfold md_Ref_ring at hM
  refine lv_iconst (v := 0) hx hb nd_Ref_ring_0 (by decide) ?_
  refine lv_istore_n (lv' := [(1, .int (0 : Int32)), (0, .ref (arf 0))]) hx hb nd_Ref_ring_1 rfl hl (by decide) rfl (fun ls hl => ?_)
  refine lv_iconst (v := 1) hx hb nd_Ref_ring_2 (by decide) ?_
  refine lv_istore_n (lv' := [(2, .int (1 : Int32)), (1, .int (0 : Int32)), (0, .ref (arf 0))]) hx hb nd_Ref_ring_3 rfl hl (by decide) rfl (fun ls hl => ?_)
  have hl := lv_sub hl [2, 1, 0] rfl
  have lp_4 : ∀ (n_4 : Nat) (v1_4 : Int32) (v2_4 : Int32), (1 ≤ v2_4.toInt ∧ v2_4.toInt ≤ 4) → (4 < v2_4.toInt + (n_4 : Int)) → lo_Ref_ring_4 rf lat ln n_4 v1_4 v2_4 = tgt → ∀ (H : Heap) (locs : List Loc), va_P (dC, dI) vwCl (cw_Ref cI cZ cJ arf rf lat ln) H → va_D A (cw_Ref cI cZ cJ arf rf lat ln) → va_S A s.heap H locs → ∀ ls : Array Slot, lv_has ls 5 [(0, .ref (arf 0)), (1, .int v1_4), (2, .int v2_4)] → W p l e (headSpec nw_Ref_ring ({ frames := 0, cells := 0, slots := 0, locals := 0 } : Room)).room s m ([.ref (arf 0)] : List Value).toArray below meth c H locs 0 0 (MQ below (pq_Ref_ring dC dI cI cZ cJ arf rf lat ln  A) ([.ref (arf 0)] : List Value).toArray s 0 0 A) (F0 m 4 ls []) := by
    intro n_4
    induction n_4 with
    | zero =>
      intro v1_4 v2_4 hv2_4 hn_4
      exfalso; omega
    | succ n_4 ih_4 =>
      intro v1_4 v2_4 hv2_4 hn_4 hM H locs hP hD hS ls hl
      have hn_4 : 4 < v2_4.toInt + ((n_4 : Int) + 1) := by omega
      rw [lo_Ref_ring_4] at hM
      refine lv_iload_n hx hb nd_Ref_ring_4 rfl (lv_at hl 2 rfl) ?_
      refine lv_iconst (v := 4) hx hb nd_Ref_ring_5 (by decide) ?_
      refine lv_icmp_ge (tgt := 72) hx hb nd_Ref_ring_6 (by decide) (fun c_1 => ?_) (fun c_1 => ?_)
      · have c_1t := cr_le c_1
        rw [if_pos c_1] at hM
        refine lv_iload_n hx hb nd_Ref_ring_72 rfl (lv_at hl 1 rfl) ?_
        exact W.zret (v := v1_4) (ty := .boolean) hx hb hr (by decide) (fun t ht hW => ⟨⟨v1_4, (), rfl, by rw [hT, ← hM], by rw [ht]; exact hP, va_K.moved hW.alike hK, hD⟩, hS.F ht⟩) hS.2.2 nd_Ref_ring_73
      · have c_1t := cr_nle c_1
        rw [if_neg c_1] at hM
        refine lv_iload_n hx hb nd_Ref_ring_9 rfl (lv_at hl 2 rfl) ?_
        refine lv_istore_n (lv' := [(3, .int v2_4), (0, .ref (arf 0)), (1, .int v1_4), (2, .int v2_4)]) hx hb nd_Ref_ring_10 rfl hl (by decide) rfl (fun ls hl => ?_)
        refine lv_iconst (v := 0) hx hb nd_Ref_ring_11 (by decide) ?_
        refine lv_istore (lv' := [(4, .int (0 : Int32)), (3, .int v2_4), (0, .ref (arf 0)), (1, .int v1_4), (2, .int v2_4)]) hx hb nd_Ref_ring_12 hl (by decide) rfl (fun ls hl => ?_)
        have hl := lv_sub hl [2, 3, 4, 1, 0] rfl
        obtain ⟨ti_14, hti_14⟩ : ∃ z, lo_Ref_ring_14 rf lat ln v2_4 4 v1_4 v2_4 (0 : Int32) = z := ⟨_, rfl⟩
        try rw [hti_14] at hM
        have hex_14 : ∀ (H : Heap) (locs : List Loc), va_P (dC, dI) vwCl (cw_Ref cI cZ cJ arf rf lat ln) H → va_D A (cw_Ref cI cZ cJ arf rf lat ln) → va_S A s.heap H locs → ∀ ls : Array Slot, lv_has ls 5 [(0, .ref (arf 0)), (1, .int ti_14), (2, .int v2_4)] → W p l e (headSpec nw_Ref_ring ({ frames := 0, cells := 0, slots := 0, locals := 0 } : Room)).room s m ([.ref (arf 0)] : List Value).toArray below meth c H locs 0 0 (MQ below (pq_Ref_ring dC dI cI cZ cJ arf rf lat ln  A) ([.ref (arf 0)] : List Value).toArray s 0 0 A) (F0 m 66 ls []) := by
          intro  H locs hP hD hS ls hl
          have e_2 : (v2_4 + (1 : Int32)).toInt = v2_4.toInt + (1 : Int32).toInt := cr_add (by omega)
          refine lv_iinc (v := (v2_4 + (1 : Int32))) (lv' := [(2, .int (v2_4 + (1 : Int32))), (0, .ref (arf 0)), (1, .int ti_14)]) hx hb nd_Ref_ring_66 hl (k := 2) rfl (by rfl) (by decide) rfl (fun ls hl => ?_)
          refine lv_goto (tgt := 4) hx hb nd_Ref_ring_69 (by decide) ?_
          exact ih_4 ti_14 (v2_4 + (1 : Int32)) (by omega) (by omega) hM _ _ hP hD hS _ (lv_sub hl [1, 2, 0] rfl)
        have lp_14 : ∀ (n_14 : Nat) (v1_14 : Int32) (v3_14 : Int32) (v4_14 : Int32), (0 ≤ v4_14.toInt ∧ v4_14.toInt ≤ 3) → (0 ≤ v3_14.toInt ∧ v3_14.toInt ≤ 3) → (3 < v4_14.toInt + (n_14 : Int)) → lo_Ref_ring_14 rf lat ln v2_4 n_14 v1_14 v3_14 v4_14 = ti_14 → ∀ (H : Heap) (locs : List Loc), va_P (dC, dI) vwCl (cw_Ref cI cZ cJ arf rf lat ln) H → va_D A (cw_Ref cI cZ cJ arf rf lat ln) → va_S A s.heap H locs → ∀ ls : Array Slot, lv_has ls 5 [(0, .ref (arf 0)), (1, .int v1_14), (2, .int v2_4), (3, .int v3_14), (4, .int v4_14)] → W p l e (headSpec nw_Ref_ring ({ frames := 0, cells := 0, slots := 0, locals := 0 } : Room)).room s m ([.ref (arf 0)] : List Value).toArray below meth c H locs 0 0 (MQ below (pq_Ref_ring dC dI cI cZ cJ arf rf lat ln  A) ([.ref (arf 0)] : List Value).toArray s 0 0 A) (F0 m 14 ls []) := by
          try clear hM
          intro n_14
          induction n_14 with
          | zero =>
            intro v1_14 v3_14 v4_14 hv4_14 hv3_14 hn_14
            exfalso; omega
          | succ n_14 ih_14 =>
            intro v1_14 v3_14 v4_14 hv4_14 hv3_14 hn_14 hM H locs hP hD hS ls hl
            have hn_14 : 3 < v4_14.toInt + ((n_14 : Int) + 1) := by omega
            rw [lo_Ref_ring_14] at hM
            refine lv_iload hx hb nd_Ref_ring_14 (lv_at hl 4 rfl) ?_
            refine lv_iconst (v := 3) hx hb nd_Ref_ring_16 (by decide) ?_
            refine lv_icmp_ge (tgt := 66) hx hb nd_Ref_ring_17 (by decide) (fun c_3 => ?_) (fun c_3 => ?_)
            · have c_3t := cr_le c_3
              rw [if_pos c_3] at hM
              subst hM
              exact hex_14  _ _ hP hD hS _ (lv_sub hl [0, 1, 2] rfl)
            · have c_3t := cr_nle c_3
              rw [if_neg c_3] at hM
              refine lv_aload_n hx hb nd_Ref_ring_20 rfl (lv_at hl 0 rfl) ?_
              refine va_get (D := (dC, dI)) (ci := 5) (v := .ref (arf 11)) (C := "CeilingRowsModel") (T := nf_Ref) (N := 22) hx hb hts nin_Ref hown hK hP 0 rfl rfl 14 (by decide) (hts _ tw_427) (fun _ h9 => h9) rfl nd_Ref_ring_21 ?_
              refine lv_iload_n hx hb nd_Ref_ring_24 rfl (lv_at hl 3 rfl) ?_
              have b_4 : vp_in v3_14 4 := vp_in_iff.mpr (by omega)
              refine va_iald hx hb hK hP 11 0 rfl rfl b_4 nd_Ref_ring_25 ?_
              have f_5 := cr_rgo hR_rf.2.2.2.2.1 (v3_14.toNatClampNeg)
              refine lv_if_le (tgt := 43) hx hb nd_Ref_ring_26 (by decide) (fun c_6 => ?_) (fun c_6 => ?_)
              · have c_6t := cr_le c_6
                rw [if_pos c_6] at hM
                refine lv_iconst (v := 0) hx hb nd_Ref_ring_43 (by decide) ?_
                refine lv_istore_n (lv' := [(3, .int (0 : Int32)), (0, .ref (arf 0)), (1, .int v1_14), (2, .int v2_4), (4, .int v4_14)]) hx hb nd_Ref_ring_44 rfl hl (by decide) rfl (fun ls hl => ?_)
                refine lv_iload_n hx hb nd_Ref_ring_45 rfl (lv_at hl 2 rfl) ?_
                refine lv_if_ne (tgt := 54) hx hb nd_Ref_ring_46 (by decide) (fun c_7 => ?_) (fun c_7 => ?_)
                · have c_7t := cr_ne c_7
                  rw [if_neg c_7] at hM
                  refine lv_iconst (v := 1) hx hb nd_Ref_ring_54 (by decide) ?_
                  refine lv_goto (tgt := 59) hx hb nd_Ref_ring_55 (by decide) ?_
                  refine lv_istore_n (lv' := [(1, .int (1 : Int32)), (3, .int (0 : Int32)), (0, .ref (arf 0)), (2, .int v2_4), (4, .int v4_14)]) hx hb nd_Ref_ring_59 rfl hl (by decide) rfl (fun ls hl => ?_)
                  have e_8 : (v4_14 + (1 : Int32)).toInt = v4_14.toInt + (1 : Int32).toInt := cr_add (by omega)
                  refine lv_iinc (v := (v4_14 + (1 : Int32))) (lv' := [(4, .int (v4_14 + (1 : Int32))), (1, .int (1 : Int32)), (3, .int (0 : Int32)), (0, .ref (arf 0)), (2, .int v2_4)]) hx hb nd_Ref_ring_60 hl (k := 4) rfl (by rfl) (by decide) rfl (fun ls hl => ?_)
                  refine lv_goto (tgt := 14) hx hb nd_Ref_ring_63 (by decide) ?_
                  exact ih_14 (1 : Int32) (0 : Int32) (v4_14 + (1 : Int32)) (by omega) (by omega) (by omega) hM _ _ hP hD hS _ (lv_sub hl [3, 1, 4, 2, 0] rfl)
                · have c_7t := cr_eq c_7
                  rw [if_pos c_7] at hM
                  refine lv_iload_n hx hb nd_Ref_ring_49 rfl (lv_at hl 0 rfl) ?_
                  refine lv_iload_n hx hb nd_Ref_ring_50 rfl (lv_at hl 3 rfl) ?_
                  refine lv_icmp_ne (tgt := 58) hx hb nd_Ref_ring_51 (by decide) (fun c_9 => ?_) (fun c_9 => ?_)
                  · have c_9t := cr_ne c_9
                    rw [if_neg c_9] at hM
                    refine lv_iconst (v := 0) hx hb nd_Ref_ring_58 (by decide) ?_
                    refine lv_istore_n (lv' := [(1, .int (0 : Int32)), (3, .int (0 : Int32)), (0, .ref (arf 0)), (2, .int v2_4), (4, .int v4_14)]) hx hb nd_Ref_ring_59 rfl hl (by decide) rfl (fun ls hl => ?_)
                    have e_10 : (v4_14 + (1 : Int32)).toInt = v4_14.toInt + (1 : Int32).toInt := cr_add (by omega)
                    refine lv_iinc (v := (v4_14 + (1 : Int32))) (lv' := [(4, .int (v4_14 + (1 : Int32))), (1, .int (0 : Int32)), (3, .int (0 : Int32)), (0, .ref (arf 0)), (2, .int v2_4)]) hx hb nd_Ref_ring_60 hl (k := 4) rfl (by rfl) (by decide) rfl (fun ls hl => ?_)
                    refine lv_goto (tgt := 14) hx hb nd_Ref_ring_63 (by decide) ?_
                    exact ih_14 (0 : Int32) (0 : Int32) (v4_14 + (1 : Int32)) (by omega) (by omega) (by omega) hM _ _ hP hD hS _ (lv_sub hl [3, 1, 4, 2, 0] rfl)
                  · have c_9t := cr_eq c_9
                    rw [if_pos c_9] at hM
                    refine lv_iconst (v := 1) hx hb nd_Ref_ring_54 (by decide) ?_
                    refine lv_goto (tgt := 59) hx hb nd_Ref_ring_55 (by decide) ?_
                    refine lv_istore_n (lv' := [(1, .int (1 : Int32)), (3, .int (0 : Int32)), (0, .ref (arf 0)), (2, .int v2_4), (4, .int v4_14)]) hx hb nd_Ref_ring_59 rfl hl (by decide) rfl (fun ls hl => ?_)
                    have e_11 : (v4_14 + (1 : Int32)).toInt = v4_14.toInt + (1 : Int32).toInt := cr_add (by omega)
                    refine lv_iinc (v := (v4_14 + (1 : Int32))) (lv' := [(4, .int (v4_14 + (1 : Int32))), (1, .int (1 : Int32)), (3, .int (0 : Int32)), (0, .ref (arf 0)), (2, .int v2_4)]) hx hb nd_Ref_ring_60 hl (k := 4) rfl (by rfl) (by decide) rfl (fun ls hl => ?_)
                    refine lv_goto (tgt := 14) hx hb nd_Ref_ring_63 (by decide) ?_
                    exact ih_14 (1 : Int32) (0 : Int32) (v4_14 + (1 : Int32)) (by omega) (by omega) (by omega) hM _ _ hP hD hS _ (lv_sub hl [3, 1, 4, 2, 0] rfl)
              · have c_6t := cr_nle c_6
                rw [if_neg c_6] at hM
                refine lv_aload_n hx hb nd_Ref_ring_29 rfl (lv_at hl 0 rfl) ?_
                refine va_get (D := (dC, dI)) (ci := 5) (v := .ref (arf 9)) (C := "CeilingRowsModel") (T := nf_Ref) (N := 22) hx hb hts nin_Ref hown hK hP 0 rfl rfl 12 (by decide) (hts _ tw_425) (fun _ h9 => h9) rfl nd_Ref_ring_30 ?_
                refine lv_aload_n hx hb nd_Ref_ring_33 rfl (lv_at hl 0 rfl) ?_
                refine va_get (D := (dC, dI)) (ci := 5) (v := .ref (arf 11)) (C := "CeilingRowsModel") (T := nf_Ref) (N := 22) hx hb hts nin_Ref hown hK hP 0 rfl rfl 14 (by decide) (hts _ tw_427) (fun _ h9 => h9) rfl nd_Ref_ring_34 ?_
                refine lv_iload_n hx hb nd_Ref_ring_37 rfl (lv_at hl 3 rfl) ?_
                have b_12 : vp_in v3_14 4 := vp_in_iff.mpr (by omega)
                refine va_iald hx hb hK hP 11 0 rfl rfl b_12 nd_Ref_ring_38 ?_
                have f_13 := cr_rgo hR_rf.2.2.2.2.1 (v3_14.toNatClampNeg)
                have b_14 : vp_in (rf 11 v3_14.toNatClampNeg) 9 := vp_in_iff.mpr (by omega)
                refine va_iald hx hb hK hP 9 0 rfl rfl b_14 nd_Ref_ring_39 ?_
                have f_15 := cr_rgo hR_rf.2.2.2.1 ((rf 11 v3_14.toNatClampNeg).toNatClampNeg)
                refine lv_goto (tgt := 44) hx hb nd_Ref_ring_40 (by decide) ?_
                refine lv_istore_n (lv' := [(3, .int (rf 9 (rf 11 v3_14.toNatClampNeg).toNatClampNeg)), (0, .ref (arf 0)), (1, .int v1_14), (2, .int v2_4), (4, .int v4_14)]) hx hb nd_Ref_ring_44 rfl hl (by decide) rfl (fun ls hl => ?_)
                refine lv_iload_n hx hb nd_Ref_ring_45 rfl (lv_at hl 2 rfl) ?_
                refine lv_if_ne (tgt := 54) hx hb nd_Ref_ring_46 (by decide) (fun c_16 => ?_) (fun c_16 => ?_)
                · have c_16t := cr_ne c_16
                  rw [if_neg c_16] at hM
                  refine lv_iconst (v := 1) hx hb nd_Ref_ring_54 (by decide) ?_
                  refine lv_goto (tgt := 59) hx hb nd_Ref_ring_55 (by decide) ?_
                  refine lv_istore_n (lv' := [(1, .int (1 : Int32)), (3, .int (rf 9 (rf 11 v3_14.toNatClampNeg).toNatClampNeg)), (0, .ref (arf 0)), (2, .int v2_4), (4, .int v4_14)]) hx hb nd_Ref_ring_59 rfl hl (by decide) rfl (fun ls hl => ?_)
                  have e_17 : (v4_14 + (1 : Int32)).toInt = v4_14.toInt + (1 : Int32).toInt := cr_add (by omega)
                  refine lv_iinc (v := (v4_14 + (1 : Int32))) (lv' := [(4, .int (v4_14 + (1 : Int32))), (1, .int (1 : Int32)), (3, .int (rf 9 (rf 11 v3_14.toNatClampNeg).toNatClampNeg)), (0, .ref (arf 0)), (2, .int v2_4)]) hx hb nd_Ref_ring_60 hl (k := 4) rfl (by rfl) (by decide) rfl (fun ls hl => ?_)
                  refine lv_goto (tgt := 14) hx hb nd_Ref_ring_63 (by decide) ?_
                  exact ih_14 (1 : Int32) (rf 9 (rf 11 v3_14.toNatClampNeg).toNatClampNeg) (v4_14 + (1 : Int32)) (by omega) (by omega) (by omega) hM _ _ hP hD hS _ (lv_sub hl [3, 1, 4, 2, 0] rfl)
                · have c_16t := cr_eq c_16
                  rw [if_pos c_16] at hM
                  refine lv_iload_n hx hb nd_Ref_ring_49 rfl (lv_at hl 0 rfl) ?_
                  refine lv_iload_n hx hb nd_Ref_ring_50 rfl (lv_at hl 3 rfl) ?_
                  refine lv_icmp_ne (tgt := 58) hx hb nd_Ref_ring_51 (by decide) (fun c_18 => ?_) (fun c_18 => ?_)
                  · have c_18t := cr_ne c_18
                    rw [if_neg c_18] at hM
                    refine lv_iconst (v := 0) hx hb nd_Ref_ring_58 (by decide) ?_
                    refine lv_istore_n (lv' := [(1, .int (0 : Int32)), (3, .int (rf 9 (rf 11 v3_14.toNatClampNeg).toNatClampNeg)), (0, .ref (arf 0)), (2, .int v2_4), (4, .int v4_14)]) hx hb nd_Ref_ring_59 rfl hl (by decide) rfl (fun ls hl => ?_)
                    have e_19 : (v4_14 + (1 : Int32)).toInt = v4_14.toInt + (1 : Int32).toInt := cr_add (by omega)
                    refine lv_iinc (v := (v4_14 + (1 : Int32))) (lv' := [(4, .int (v4_14 + (1 : Int32))), (1, .int (0 : Int32)), (3, .int (rf 9 (rf 11 v3_14.toNatClampNeg).toNatClampNeg)), (0, .ref (arf 0)), (2, .int v2_4)]) hx hb nd_Ref_ring_60 hl (k := 4) rfl (by rfl) (by decide) rfl (fun ls hl => ?_)
                    refine lv_goto (tgt := 14) hx hb nd_Ref_ring_63 (by decide) ?_
                    exact ih_14 (0 : Int32) (rf 9 (rf 11 v3_14.toNatClampNeg).toNatClampNeg) (v4_14 + (1 : Int32)) (by omega) (by omega) (by omega) hM _ _ hP hD hS _ (lv_sub hl [3, 1, 4, 2, 0] rfl)
                  · have c_18t := cr_eq c_18
                    rw [if_pos c_18] at hM
                    refine lv_iconst (v := 1) hx hb nd_Ref_ring_54 (by decide) ?_
                    refine lv_goto (tgt := 59) hx hb nd_Ref_ring_55 (by decide) ?_
                    refine lv_istore_n (lv' := [(1, .int (1 : Int32)), (3, .int (rf 9 (rf 11 v3_14.toNatClampNeg).toNatClampNeg)), (0, .ref (arf 0)), (2, .int v2_4), (4, .int v4_14)]) hx hb nd_Ref_ring_59 rfl hl (by decide) rfl (fun ls hl => ?_)
                    have e_20 : (v4_14 + (1 : Int32)).toInt = v4_14.toInt + (1 : Int32).toInt := cr_add (by omega)
                    refine lv_iinc (v := (v4_14 + (1 : Int32))) (lv' := [(4, .int (v4_14 + (1 : Int32))), (1, .int (1 : Int32)), (3, .int (rf 9 (rf 11 v3_14.toNatClampNeg).toNatClampNeg)), (0, .ref (arf 0)), (2, .int v2_4)]) hx hb nd_Ref_ring_60 hl (k := 4) rfl (by rfl) (by decide) rfl (fun ls hl => ?_)
                    refine lv_goto (tgt := 14) hx hb nd_Ref_ring_63 (by decide) ?_
                    exact ih_14 (1 : Int32) (rf 9 (rf 11 v3_14.toNatClampNeg).toNatClampNeg) (v4_14 + (1 : Int32)) (by omega) (by omega) (by omega) hM _ _ hP hD hS _ (lv_sub hl [3, 1, 4, 2, 0] rfl)
        exact lp_14 4 v1_4 v2_4 (0 : Int32) (by omega) (by omega) (by omega) hti_14 _ _ hP hD hS _ hl
  exact lp_4 4 (0 : Int32) (1 : Int32) (by omega) (by omega) hM _ _ hP hD hS _ hl
