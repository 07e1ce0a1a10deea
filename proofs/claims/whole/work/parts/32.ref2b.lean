theorem nd_Ref_acts_0 : decode prog_7_method_14_code 0 = .ok (.iload_n 2, 1) := by decide +kernel
theorem nd_Ref_acts_1 : decode prog_7_method_14_code 1 = .ok (.ifCond .ne (34), 3) := by decide +kernel
theorem nd_Ref_acts_4 : decode prog_7_method_14_code 4 = .ok (.aload_n 0, 1) := by decide +kernel
theorem nd_Ref_acts_5 : decode prog_7_method_14_code 5 = .ok (.getfield 16, 3) := by decide +kernel
theorem nd_Ref_acts_8 : decode prog_7_method_14_code 8 = .ok (.iload_n 1, 1) := by decide +kernel
theorem nd_Ref_acts_9 : decode prog_7_method_14_code 9 = .ok (.iaload, 1) := by decide +kernel
theorem nd_Ref_acts_10 : decode prog_7_method_14_code 10 = .ok (.ifCond .eq (6), 3) := by decide +kernel
theorem nd_Ref_acts_13 : decode prog_7_method_14_code 13 = .ok (.bipush (-3), 2) := by decide +kernel
theorem nd_Ref_acts_15 : decode prog_7_method_14_code 15 = .ok (.ireturn, 1) := by decide +kernel
theorem nd_Ref_acts_16 : decode prog_7_method_14_code 16 = .ok (.aload_n 0, 1) := by decide +kernel
theorem nd_Ref_acts_17 : decode prog_7_method_14_code 17 = .ok (.iload_n 1, 1) := by decide +kernel
theorem nd_Ref_acts_18 : decode prog_7_method_14_code 18 = .ok (.invokevirtual 92, 3) := by decide +kernel
theorem nd_Ref_acts_21 : decode prog_7_method_14_code 21 = .ok (.aload_n 0, 1) := by decide +kernel
theorem nd_Ref_acts_22 : decode prog_7_method_14_code 22 = .ok (.iload_n 1, 1) := by decide +kernel
theorem nd_Ref_acts_23 : decode prog_7_method_14_code 23 = .ok (.invokevirtual 96, 3) := by decide +kernel
theorem nd_Ref_acts_26 : decode prog_7_method_14_code 26 = .ok (.ifCond .eq (7), 3) := by decide +kernel
theorem nd_Ref_acts_29 : decode prog_7_method_14_code 29 = .ok (.iconst 1, 1) := by decide +kernel
theorem nd_Ref_acts_30 : decode prog_7_method_14_code 30 = .ok (.goto (4), 3) := by decide +kernel
theorem nd_Ref_acts_33 : decode prog_7_method_14_code 33 = .ok (.iconst 0, 1) := by decide +kernel
theorem nd_Ref_acts_34 : decode prog_7_method_14_code 34 = .ok (.ireturn, 1) := by decide +kernel
theorem nd_Ref_acts_35 : decode prog_7_method_14_code 35 = .ok (.aload_n 0, 1) := by decide +kernel
theorem nd_Ref_acts_36 : decode prog_7_method_14_code 36 = .ok (.getfield 16, 3) := by decide +kernel
theorem nd_Ref_acts_39 : decode prog_7_method_14_code 39 = .ok (.iload_n 1, 1) := by decide +kernel
theorem nd_Ref_acts_40 : decode prog_7_method_14_code 40 = .ok (.iaload, 1) := by decide +kernel
theorem nd_Ref_acts_41 : decode prog_7_method_14_code 41 = .ok (.ifCond .ne (6), 3) := by decide +kernel
theorem nd_Ref_acts_44 : decode prog_7_method_14_code 44 = .ok (.bipush (-3), 2) := by decide +kernel
theorem nd_Ref_acts_46 : decode prog_7_method_14_code 46 = .ok (.ireturn, 1) := by decide +kernel
theorem nd_Ref_acts_47 : decode prog_7_method_14_code 47 = .ok (.iload_n 2, 1) := by decide +kernel
theorem nd_Ref_acts_48 : decode prog_7_method_14_code 48 = .ok (.iconst 5, 1) := by decide +kernel
theorem nd_Ref_acts_49 : decode prog_7_method_14_code 49 = .ok (.if_icmp .ne (42), 3) := by decide +kernel
theorem nd_Ref_acts_52 : decode prog_7_method_14_code 52 = .ok (.aload_n 0, 1) := by decide +kernel
theorem nd_Ref_acts_53 : decode prog_7_method_14_code 53 = .ok (.getfield 16, 3) := by decide +kernel
theorem nd_Ref_acts_56 : decode prog_7_method_14_code 56 = .ok (.iload_n 1, 1) := by decide +kernel
theorem nd_Ref_acts_57 : decode prog_7_method_14_code 57 = .ok (.iaload, 1) := by decide +kernel
theorem nd_Ref_acts_58 : decode prog_7_method_14_code 58 = .ok (.iconst 2, 1) := by decide +kernel
theorem nd_Ref_acts_59 : decode prog_7_method_14_code 59 = .ok (.if_icmp .ne (11), 3) := by decide +kernel
theorem nd_Ref_acts_62 : decode prog_7_method_14_code 62 = .ok (.aload_n 0, 1) := by decide +kernel
theorem nd_Ref_acts_63 : decode prog_7_method_14_code 63 = .ok (.iload_n 1, 1) := by decide +kernel
theorem nd_Ref_acts_64 : decode prog_7_method_14_code 64 = .ok (.invokevirtual 92, 3) := by decide +kernel
theorem nd_Ref_acts_67 : decode prog_7_method_14_code 67 = .ok (.goto (10), 3) := by decide +kernel
theorem nd_Ref_acts_70 : decode prog_7_method_14_code 70 = .ok (.aload_n 0, 1) := by decide +kernel
theorem nd_Ref_acts_71 : decode prog_7_method_14_code 71 = .ok (.getfield 22, 3) := by decide +kernel
theorem nd_Ref_acts_74 : decode prog_7_method_14_code 74 = .ok (.iload_n 1, 1) := by decide +kernel
theorem nd_Ref_acts_75 : decode prog_7_method_14_code 75 = .ok (.iconst 1, 1) := by decide +kernel
theorem nd_Ref_acts_76 : decode prog_7_method_14_code 76 = .ok (.bastore, 1) := by decide +kernel
theorem nd_Ref_acts_77 : decode prog_7_method_14_code 77 = .ok (.aload_n 0, 1) := by decide +kernel
theorem nd_Ref_acts_78 : decode prog_7_method_14_code 78 = .ok (.iload_n 1, 1) := by decide +kernel
theorem nd_Ref_acts_79 : decode prog_7_method_14_code 79 = .ok (.invokevirtual 96, 3) := by decide +kernel
theorem nd_Ref_acts_82 : decode prog_7_method_14_code 82 = .ok (.ifCond .eq (7), 3) := by decide +kernel
theorem nd_Ref_acts_85 : decode prog_7_method_14_code 85 = .ok (.iconst 1, 1) := by decide +kernel
theorem nd_Ref_acts_86 : decode prog_7_method_14_code 86 = .ok (.goto (4), 3) := by decide +kernel
theorem nd_Ref_acts_89 : decode prog_7_method_14_code 89 = .ok (.iconst 0, 1) := by decide +kernel
theorem nd_Ref_acts_90 : decode prog_7_method_14_code 90 = .ok (.ireturn, 1) := by decide +kernel
theorem nd_Ref_acts_91 : decode prog_7_method_14_code 91 = .ok (.aload_n 0, 1) := by decide +kernel
theorem nd_Ref_acts_92 : decode prog_7_method_14_code 92 = .ok (.getfield 16, 3) := by decide +kernel
theorem nd_Ref_acts_95 : decode prog_7_method_14_code 95 = .ok (.iload_n 1, 1) := by decide +kernel
theorem nd_Ref_acts_96 : decode prog_7_method_14_code 96 = .ok (.iaload, 1) := by decide +kernel
theorem nd_Ref_acts_97 : decode prog_7_method_14_code 97 = .ok (.iconst 2, 1) := by decide +kernel
theorem nd_Ref_acts_98 : decode prog_7_method_14_code 98 = .ok (.if_icmp .ne (6), 3) := by decide +kernel
theorem nd_Ref_acts_101 : decode prog_7_method_14_code 101 = .ok (.bipush (-3), 2) := by decide +kernel
theorem nd_Ref_acts_103 : decode prog_7_method_14_code 103 = .ok (.ireturn, 1) := by decide +kernel
theorem nd_Ref_acts_104 : decode prog_7_method_14_code 104 = .ok (.aload_n 0, 1) := by decide +kernel
theorem nd_Ref_acts_105 : decode prog_7_method_14_code 105 = .ok (.iload_n 1, 1) := by decide +kernel
theorem nd_Ref_acts_106 : decode prog_7_method_14_code 106 = .ok (.invokevirtual 96, 3) := by decide +kernel
theorem nd_Ref_acts_109 : decode prog_7_method_14_code 109 = .ok (.ifCond .ne (5), 3) := by decide +kernel
theorem nd_Ref_acts_112 : decode prog_7_method_14_code 112 = .ok (.iconst 0, 1) := by decide +kernel
theorem nd_Ref_acts_113 : decode prog_7_method_14_code 113 = .ok (.ireturn, 1) := by decide +kernel
theorem nd_Ref_acts_114 : decode prog_7_method_14_code 114 = .ok (.aload_n 0, 1) := by decide +kernel
theorem nd_Ref_acts_115 : decode prog_7_method_14_code 115 = .ok (.iload_n 1, 1) := by decide +kernel
theorem nd_Ref_acts_116 : decode prog_7_method_14_code 116 = .ok (.invokevirtual 99, 3) := by decide +kernel
theorem nd_Ref_acts_119 : decode prog_7_method_14_code 119 = .ok (.istore 4, 2) := by decide +kernel
theorem nd_Ref_acts_121 : decode prog_7_method_14_code 121 = .ok (.iload_n 2, 1) := by decide +kernel
theorem nd_Ref_acts_122 : decode prog_7_method_14_code 122 = .ok (.iconst 1, 1) := by decide +kernel
theorem nd_Ref_acts_123 : decode prog_7_method_14_code 123 = .ok (.if_icmp .ne (68), 3) := by decide +kernel
theorem nd_Ref_acts_126 : decode prog_7_method_14_code 126 = .ok (.aload_n 0, 1) := by decide +kernel
theorem nd_Ref_acts_127 : decode prog_7_method_14_code 127 = .ok (.getfield 26, 3) := by decide +kernel
theorem nd_Ref_acts_130 : decode prog_7_method_14_code 130 = .ok (.bipush 9, 2) := by decide +kernel
theorem nd_Ref_acts_132 : decode prog_7_method_14_code 132 = .ok (.iload_n 1, 1) := by decide +kernel
theorem nd_Ref_acts_133 : decode prog_7_method_14_code 133 = .ok (.imul, 1) := by decide +kernel
theorem nd_Ref_acts_134 : decode prog_7_method_14_code 134 = .ok (.iload_n 3, 1) := by decide +kernel
theorem nd_Ref_acts_135 : decode prog_7_method_14_code 135 = .ok (.iadd, 1) := by decide +kernel
theorem nd_Ref_acts_136 : decode prog_7_method_14_code 136 = .ok (.laload, 1) := by decide +kernel
theorem nd_Ref_acts_137 : decode prog_7_method_14_code 137 = .ok (.lconst 0, 1) := by decide +kernel
theorem nd_Ref_acts_138 : decode prog_7_method_14_code 138 = .ok (.lcmp, 1) := by decide +kernel
theorem nd_Ref_acts_139 : decode prog_7_method_14_code 139 = .ok (.ifCond .ne (6), 3) := by decide +kernel
theorem nd_Ref_acts_142 : decode prog_7_method_14_code 142 = .ok (.bipush (-11), 2) := by decide +kernel
theorem nd_Ref_acts_144 : decode prog_7_method_14_code 144 = .ok (.ireturn, 1) := by decide +kernel
theorem nd_Ref_acts_145 : decode prog_7_method_14_code 145 = .ok (.aload_n 0, 1) := by decide +kernel
theorem nd_Ref_acts_146 : decode prog_7_method_14_code 146 = .ok (.getfield 30, 3) := by decide +kernel
theorem nd_Ref_acts_149 : decode prog_7_method_14_code 149 = .ok (.iload_n 3, 1) := by decide +kernel
theorem nd_Ref_acts_150 : decode prog_7_method_14_code 150 = .ok (.iaload, 1) := by decide +kernel
theorem nd_Ref_acts_151 : decode prog_7_method_14_code 151 = .ok (.iload_n 1, 1) := by decide +kernel
theorem nd_Ref_acts_152 : decode prog_7_method_14_code 152 = .ok (.if_icmp .ne (6), 3) := by decide +kernel
theorem nd_Ref_acts_155 : decode prog_7_method_14_code 155 = .ok (.bipush (-12), 2) := by decide +kernel
theorem nd_Ref_acts_157 : decode prog_7_method_14_code 157 = .ok (.ireturn, 1) := by decide +kernel
theorem nd_Ref_acts_158 : decode prog_7_method_14_code 158 = .ok (.aload_n 0, 1) := by decide +kernel
theorem nd_Ref_acts_159 : decode prog_7_method_14_code 159 = .ok (.getfield 30, 3) := by decide +kernel
theorem nd_Ref_acts_162 : decode prog_7_method_14_code 162 = .ok (.iload_n 3, 1) := by decide +kernel
theorem nd_Ref_acts_163 : decode prog_7_method_14_code 163 = .ok (.iload_n 1, 1) := by decide +kernel
theorem nd_Ref_acts_164 : decode prog_7_method_14_code 164 = .ok (.iastore, 1) := by decide +kernel
theorem nd_Ref_acts_165 : decode prog_7_method_14_code 165 = .ok (.aload_n 0, 1) := by decide +kernel
theorem nd_Ref_acts_166 : decode prog_7_method_14_code 166 = .ok (.getfield 33, 3) := by decide +kernel
theorem nd_Ref_acts_169 : decode prog_7_method_14_code 169 = .ok (.iload_n 3, 1) := by decide +kernel
theorem nd_Ref_acts_170 : decode prog_7_method_14_code 170 = .ok (.iload 4, 2) := by decide +kernel
theorem nd_Ref_acts_172 : decode prog_7_method_14_code 172 = .ok (.ifCond .ne (7), 3) := by decide +kernel
theorem nd_Ref_acts_175 : decode prog_7_method_14_code 175 = .ok (.iconst 1, 1) := by decide +kernel
theorem nd_Ref_acts_176 : decode prog_7_method_14_code 176 = .ok (.goto (12), 3) := by decide +kernel
theorem nd_Ref_acts_179 : decode prog_7_method_14_code 179 = .ok (.aload_n 0, 1) := by decide +kernel
theorem nd_Ref_acts_180 : decode prog_7_method_14_code 180 = .ok (.getfield 33, 3) := by decide +kernel
theorem nd_Ref_acts_183 : decode prog_7_method_14_code 183 = .ok (.iload 4, 2) := by decide +kernel
theorem nd_Ref_acts_185 : decode prog_7_method_14_code 185 = .ok (.iaload, 1) := by decide +kernel
theorem nd_Ref_acts_186 : decode prog_7_method_14_code 186 = .ok (.iconst 1, 1) := by decide +kernel
theorem nd_Ref_acts_187 : decode prog_7_method_14_code 187 = .ok (.iadd, 1) := by decide +kernel
theorem nd_Ref_acts_188 : decode prog_7_method_14_code 188 = .ok (.iastore, 1) := by decide +kernel
theorem nd_Ref_acts_189 : decode prog_7_method_14_code 189 = .ok (.iconst 1, 1) := by decide +kernel
theorem nd_Ref_acts_190 : decode prog_7_method_14_code 190 = .ok (.ireturn, 1) := by decide +kernel
theorem nd_Ref_acts_191 : decode prog_7_method_14_code 191 = .ok (.iload_n 2, 1) := by decide +kernel
theorem nd_Ref_acts_192 : decode prog_7_method_14_code 192 = .ok (.iconst 2, 1) := by decide +kernel
theorem nd_Ref_acts_193 : decode prog_7_method_14_code 193 = .ok (.if_icmp .ne (26), 3) := by decide +kernel
theorem nd_Ref_acts_196 : decode prog_7_method_14_code 196 = .ok (.iload 4, 2) := by decide +kernel
theorem nd_Ref_acts_198 : decode prog_7_method_14_code 198 = .ok (.ifCond .eq (9), 3) := by decide +kernel
theorem nd_Ref_acts_201 : decode prog_7_method_14_code 201 = .ok (.iload 4, 2) := by decide +kernel
theorem nd_Ref_acts_203 : decode prog_7_method_14_code 203 = .ok (.iload_n 3, 1) := by decide +kernel
theorem nd_Ref_acts_204 : decode prog_7_method_14_code 204 = .ok (.if_icmp .eq (6), 3) := by decide +kernel
theorem nd_Ref_acts_207 : decode prog_7_method_14_code 207 = .ok (.bipush (-13), 2) := by decide +kernel
theorem nd_Ref_acts_209 : decode prog_7_method_14_code 209 = .ok (.ireturn, 1) := by decide +kernel
theorem nd_Ref_acts_210 : decode prog_7_method_14_code 210 = .ok (.aload_n 0, 1) := by decide +kernel
theorem nd_Ref_acts_211 : decode prog_7_method_14_code 211 = .ok (.getfield 30, 3) := by decide +kernel
theorem nd_Ref_acts_214 : decode prog_7_method_14_code 214 = .ok (.iload_n 3, 1) := by decide +kernel
theorem nd_Ref_acts_215 : decode prog_7_method_14_code 215 = .ok (.iconst 0, 1) := by decide +kernel
theorem nd_Ref_acts_216 : decode prog_7_method_14_code 216 = .ok (.iastore, 1) := by decide +kernel
theorem nd_Ref_acts_217 : decode prog_7_method_14_code 217 = .ok (.iconst 1, 1) := by decide +kernel
theorem nd_Ref_acts_218 : decode prog_7_method_14_code 218 = .ok (.ireturn, 1) := by decide +kernel
theorem nd_Ref_acts_219 : decode prog_7_method_14_code 219 = .ok (.iload_n 2, 1) := by decide +kernel
theorem nd_Ref_acts_220 : decode prog_7_method_14_code 220 = .ok (.iconst 3, 1) := by decide +kernel
theorem nd_Ref_acts_221 : decode prog_7_method_14_code 221 = .ok (.if_icmp .ne (76), 3) := by decide +kernel
theorem nd_Ref_acts_224 : decode prog_7_method_14_code 224 = .ok (.aload_n 0, 1) := by decide +kernel
theorem nd_Ref_acts_225 : decode prog_7_method_14_code 225 = .ok (.getfield 16, 3) := by decide +kernel
theorem nd_Ref_acts_228 : decode prog_7_method_14_code 228 = .ok (.iload_n 1, 1) := by decide +kernel
theorem nd_Ref_acts_229 : decode prog_7_method_14_code 229 = .ok (.iconst 0, 1) := by decide +kernel
theorem nd_Ref_acts_230 : decode prog_7_method_14_code 230 = .ok (.iastore, 1) := by decide +kernel
theorem nd_Ref_acts_231 : decode prog_7_method_14_code 231 = .ok (.aload_n 0, 1) := by decide +kernel
theorem nd_Ref_acts_232 : decode prog_7_method_14_code 232 = .ok (.getfield 22, 3) := by decide +kernel
theorem nd_Ref_acts_235 : decode prog_7_method_14_code 235 = .ok (.iload_n 1, 1) := by decide +kernel
theorem nd_Ref_acts_236 : decode prog_7_method_14_code 236 = .ok (.iconst 0, 1) := by decide +kernel
theorem nd_Ref_acts_237 : decode prog_7_method_14_code 237 = .ok (.bastore, 1) := by decide +kernel
theorem nd_Ref_acts_238 : decode prog_7_method_14_code 238 = .ok (.iconst 1, 1) := by decide +kernel
theorem nd_Ref_acts_239 : decode prog_7_method_14_code 239 = .ok (.istore 5, 2) := by decide +kernel
theorem nd_Ref_acts_241 : decode prog_7_method_14_code 241 = .ok (.iload 5, 2) := by decide +kernel
theorem nd_Ref_acts_243 : decode prog_7_method_14_code 243 = .ok (.aload_n 0, 1) := by decide +kernel
theorem nd_Ref_acts_244 : decode prog_7_method_14_code 244 = .ok (.getfield 67, 3) := by decide +kernel
theorem nd_Ref_acts_247 : decode prog_7_method_14_code 247 = .ok (.if_icmp .gt (38), 3) := by decide +kernel
theorem nd_Ref_acts_250 : decode prog_7_method_14_code 250 = .ok (.aload_n 0, 1) := by decide +kernel
theorem nd_Ref_acts_251 : decode prog_7_method_14_code 251 = .ok (.getfield 30, 3) := by decide +kernel
theorem nd_Ref_acts_254 : decode prog_7_method_14_code 254 = .ok (.iload 5, 2) := by decide +kernel
theorem nd_Ref_acts_256 : decode prog_7_method_14_code 256 = .ok (.aload_n 0, 1) := by decide +kernel
theorem nd_Ref_acts_257 : decode prog_7_method_14_code 257 = .ok (.getfield 30, 3) := by decide +kernel
theorem nd_Ref_acts_260 : decode prog_7_method_14_code 260 = .ok (.iload 5, 2) := by decide +kernel
theorem nd_Ref_acts_262 : decode prog_7_method_14_code 262 = .ok (.iaload, 1) := by decide +kernel
theorem nd_Ref_acts_263 : decode prog_7_method_14_code 263 = .ok (.iload_n 1, 1) := by decide +kernel
theorem nd_Ref_acts_264 : decode prog_7_method_14_code 264 = .ok (.if_icmp .ne (7), 3) := by decide +kernel
theorem nd_Ref_acts_267 : decode prog_7_method_14_code 267 = .ok (.iconst 0, 1) := by decide +kernel
theorem nd_Ref_acts_268 : decode prog_7_method_14_code 268 = .ok (.goto (10), 3) := by decide +kernel
theorem nd_Ref_acts_271 : decode prog_7_method_14_code 271 = .ok (.aload_n 0, 1) := by decide +kernel
theorem nd_Ref_acts_272 : decode prog_7_method_14_code 272 = .ok (.getfield 30, 3) := by decide +kernel
theorem nd_Ref_acts_275 : decode prog_7_method_14_code 275 = .ok (.iload 5, 2) := by decide +kernel
theorem nd_Ref_acts_277 : decode prog_7_method_14_code 277 = .ok (.iaload, 1) := by decide +kernel
theorem nd_Ref_acts_278 : decode prog_7_method_14_code 278 = .ok (.iastore, 1) := by decide +kernel
theorem nd_Ref_acts_279 : decode prog_7_method_14_code 279 = .ok (.iinc 5 1, 3) := by decide +kernel
theorem nd_Ref_acts_282 : decode prog_7_method_14_code 282 = .ok (.goto (-41), 3) := by decide +kernel
theorem nd_Ref_acts_285 : decode prog_7_method_14_code 285 = .ok (.iload 4, 2) := by decide +kernel
theorem nd_Ref_acts_287 : decode prog_7_method_14_code 287 = .ok (.ifCond .le (8), 3) := by decide +kernel
theorem nd_Ref_acts_290 : decode prog_7_method_14_code 290 = .ok (.bipush (-14), 2) := by decide +kernel
theorem nd_Ref_acts_292 : decode prog_7_method_14_code 292 = .ok (.goto (4), 3) := by decide +kernel
theorem nd_Ref_acts_295 : decode prog_7_method_14_code 295 = .ok (.iconst 1, 1) := by decide +kernel
theorem nd_Ref_acts_296 : decode prog_7_method_14_code 296 = .ok (.ireturn, 1) := by decide +kernel
theorem nd_Ref_acts_297 : decode prog_7_method_14_code 297 = .ok (.iload 4, 2) := by decide +kernel
theorem nd_Ref_acts_299 : decode prog_7_method_14_code 299 = .ok (.ifCond .le (6), 3) := by decide +kernel
theorem nd_Ref_acts_302 : decode prog_7_method_14_code 302 = .ok (.bipush (-15), 2) := by decide +kernel
theorem nd_Ref_acts_304 : decode prog_7_method_14_code 304 = .ok (.ireturn, 1) := by decide +kernel
theorem nd_Ref_acts_305 : decode prog_7_method_14_code 305 = .ok (.aload_n 0, 1) := by decide +kernel
theorem nd_Ref_acts_306 : decode prog_7_method_14_code 306 = .ok (.getfield 22, 3) := by decide +kernel
theorem nd_Ref_acts_309 : decode prog_7_method_14_code 309 = .ok (.iload_n 1, 1) := by decide +kernel
theorem nd_Ref_acts_310 : decode prog_7_method_14_code 310 = .ok (.baload, 1) := by decide +kernel
theorem nd_Ref_acts_311 : decode prog_7_method_14_code 311 = .ok (.ifCond .eq (12), 3) := by decide +kernel
theorem nd_Ref_acts_314 : decode prog_7_method_14_code 314 = .ok (.aload_n 0, 1) := by decide +kernel
theorem nd_Ref_acts_315 : decode prog_7_method_14_code 315 = .ok (.getfield 22, 3) := by decide +kernel
theorem nd_Ref_acts_318 : decode prog_7_method_14_code 318 = .ok (.iload_n 1, 1) := by decide +kernel
theorem nd_Ref_acts_319 : decode prog_7_method_14_code 319 = .ok (.iconst 0, 1) := by decide +kernel
theorem nd_Ref_acts_320 : decode prog_7_method_14_code 320 = .ok (.bastore, 1) := by decide +kernel
theorem nd_Ref_acts_321 : decode prog_7_method_14_code 321 = .ok (.iconst 1, 1) := by decide +kernel
theorem nd_Ref_acts_322 : decode prog_7_method_14_code 322 = .ok (.ireturn, 1) := by decide +kernel
theorem nd_Ref_acts_323 : decode prog_7_method_14_code 323 = .ok (.aload_n 0, 1) := by decide +kernel
theorem nd_Ref_acts_324 : decode prog_7_method_14_code 324 = .ok (.getfield 16, 3) := by decide +kernel
theorem nd_Ref_acts_327 : decode prog_7_method_14_code 327 = .ok (.iload_n 1, 1) := by decide +kernel
theorem nd_Ref_acts_328 : decode prog_7_method_14_code 328 = .ok (.iconst 2, 1) := by decide +kernel
theorem nd_Ref_acts_329 : decode prog_7_method_14_code 329 = .ok (.iastore, 1) := by decide +kernel
theorem nd_Ref_acts_330 : decode prog_7_method_14_code 330 = .ok (.iconst 0, 1) := by decide +kernel
theorem nd_Ref_acts_331 : decode prog_7_method_14_code 331 = .ok (.ireturn, 1) := by decide +kernel
abbrev pq_Ref_acts (dC : Nat → ClassId) (dI : Nat → Nat → Nat) (cI cZ cJ : ClassId) (arf : Nat → Nat) (rf : cr_S) (lat : Int64) (ln : (Nat → Int64)) (x1 : Int32) (x2 : Int32) (x3 : Int32) (A : Nat → Prop) : Array Value → State → Outcome → State → Prop :=
  va_Qi (fun (r : Int32) (rf' : cr_S) => r = (md_Ref_acts rf lat ln x1 x2 x3).1 ∧ rf' = (md_Ref_acts rf lat ln x1 x2 x3).2 ∧ cr_RRef rf') (fun (rf' : cr_S) t => va_P (dC, dI) vwCl (cw_Ref cI cZ cJ arf rf' lat ln) t.heap ∧ va_K (dC, dI) vwCl [(cI, .int), (cZ, .boolean), (cJ, .long)] t ∧ va_D A (cw_Ref cI cZ cJ arf rf' lat ln)) A
set_option maxHeartbeats 4000000 in
set_option maxRecDepth 100000 in
theorem ct_Ref_acts (l : Launch) (dC : Nat → ClassId) (dI : Nat → Nat → Nat) (cI cZ cJ : ClassId) (arf : Nat → Nat) (sz : Nat) (rf : cr_S) (lat : Int64) (ln : (Nat → Int64)) (x1 : Int32) (x2 : Int32) (x3 : Int32) (hR_rf : cr_RRef rf) (hx1 : 0 ≤ x1.toInt ∧ x1.toInt ≤ 10) (hq : (x2.toInt ≠ 1 ∧ x2.toInt ≠ 2) ∨ (0 ≤ x3.toInt ∧ x3.toInt ≤ 8)) : Met l ny_Ref_acts nw_Ref_acts ({ frames := 4, cells := 0, slots := 0, locals := 91 } : Room) (va_Pc [.ref (arf 0), .int x1, .int x2, .int x3] (fun U => U.heap.size = sz ∧ va_P (dC, dI) vwCl (cw_Ref cI cZ cJ arf rf lat ln) U.heap ∧ va_K (dC, dI) vwCl [(cI, .int), (cZ, .boolean), (cJ, .long)] U ∧ va_D (fun _ => True) (cw_Ref cI cZ cJ arf rf lat ln))) (pq_Ref_acts dC dI cI cZ cJ arf rf lat ln x1 x2 x3 (va_A (cw_Ref cI cZ cJ arf rf lat ln) sz)) 0 0 (va_A (cw_Ref cI cZ cJ arf rf lat ln) sz) := by
  refine Met.ofW (cc := prog_7_method_14_code) (maxL := 6) (ret := (some .int)) (by decide) rfl ?_
  intro p e s m args below meth c s₁ B hml hv
  obtain ⟨rfl, hsz, hP, hK, hD0⟩ := hv
  have hx := B.exec
  have hb := B.bytes
  have hr := B.returns
  have hts0 := atoms_spec (ws := nw_Ref_acts) B.pre
  have hts : ∀ w ∈ ng_tbl, w.before ([.ref (arf 0), .int x1, .int x2, .int x3] : List Value).toArray s = true := fun w h => hts0 w (List.mem_cons_of_mem _ h)
  have hown : s.vm.findClass "CeilingRowsModel" = some m.cls := findClass_of_methodNamed B.named
  have hlocks := B.notSynchronized
  subst hsz
  have hD := hD0.self (sz := s.heap.size)
  generalize hAe : va_A (cw_Ref cI cZ cJ arf rf lat ln) s.heap.size = A at hD ⊢
  have hA : ∀ q : Nat, s.heap.size ≤ q → A q := fun q h => by rw [← hAe]; exact Or.inr h
  have hS : va_S A s.heap s.heap [] := va_S.rf
  have hP : va_P (dC, dI) vwCl (cw_Ref cI cZ cJ arf rf lat ln) s.heap := hP
  have hl := lv_entry ([.ref (arf 0), .int x1, .int x2, .int x3]) (n := 6) (Nat.le_of_ble_eq_true rfl)
  rw [lg_entry_eq]
  generalize (lg_sl ([.ref (arf 0), .int x1, .int x2, .int x3]) ++ List.replicate (6 - (lg_sl ([.ref (arf 0), .int x1, .int x2, .int x3])).length) Slot.unset).toArray = ls at hl ⊢
  have hl : lv_has ls 6 [(0, .ref (arf 0)), (1, .int x1), (2, .int x2), (3, .int x3)] := hl
  have f0_rf_0 := cr_rfo hR_rf.1
  have f0_rf_1 := cr_rfo hR_rf.2.1
  have k_m15 : (-15 : Int32).toInt = -15 := by decide
  have k_m14 : (-14 : Int32).toInt = -14 := by decide
  have k_m13 : (-13 : Int32).toInt = -13 := by decide
  have k_m12 : (-12 : Int32).toInt = -12 := by decide
  have k_m11 : (-11 : Int32).toInt = -11 := by decide
  have k_m3 : (-3 : Int32).toInt = -3 := by decide
  have k_0 : (0 : Int32).toInt = 0 := by decide
  have k_1 : (1 : Int32).toInt = 1 := by decide
  have k_2 : (2 : Int32).toInt = 2 := by decide
  have k_3 : (3 : Int32).toInt = 3 := by decide
  have k_5 : (5 : Int32).toInt = 5 := by decide
  have k_9 : (9 : Int32).toInt = 9 := by decide
  obtain ⟨tgt, hT⟩ : ∃ z, md_Ref_acts rf lat ln x1 x2 x3 = z := ⟨_, rfl⟩
  have hM := hT
  unfold md_Ref_acts at hM
  refine lv_iload_n hx hb nd_Ref_acts_0 rfl (lv_at hl 2 rfl) ?_
  refine lv_if_ne (tgt := 35) hx hb nd_Ref_acts_1 (by decide) (fun c_1 => ?_) (fun c_1 => ?_)
  · have c_1t := cr_ne c_1
    rw [if_neg c_1] at hM
    refine lv_aload_n hx hb nd_Ref_acts_35 rfl (lv_at hl 0 rfl) ?_
    refine va_get (D := (dC, dI)) (ci := 5) (v := .ref (arf 3)) (C := "CeilingRowsModel") (T := nf_Ref) (N := 22) hx hb hts nin_Ref hown hK hP 0 rfl rfl 3 (by decide) (hts _ tw_416) (fun _ h9 => h9) rfl nd_Ref_acts_36 ?_
    refine lv_iload_n hx hb nd_Ref_acts_39 rfl (lv_at hl 1 rfl) ?_
    have b_2 : vp_in x1 11 := vp_in_iff.mpr (by omega)
    refine va_iald hx hb hK hP 3 0 rfl rfl b_2 nd_Ref_acts_40 ?_
    refine lv_if_ne (tgt := 47) hx hb nd_Ref_acts_41 (by decide) (fun c_3 => ?_) (fun c_3 => ?_)
    · have c_3t := cr_ne c_3
      rw [if_neg c_3] at hM
      refine lv_iload_n hx hb nd_Ref_acts_47 rfl (lv_at hl 2 rfl) ?_
      refine lv_iconst (v := 5) hx hb nd_Ref_acts_48 (by decide) ?_
      refine lv_icmp_ne (tgt := 91) hx hb nd_Ref_acts_49 (by decide) (fun c_4 => ?_) (fun c_4 => ?_)
      · have c_4t := cr_ne c_4
        rw [if_neg c_4] at hM
        refine lv_aload_n hx hb nd_Ref_acts_91 rfl (lv_at hl 0 rfl) ?_
        refine va_get (D := (dC, dI)) (ci := 5) (v := .ref (arf 3)) (C := "CeilingRowsModel") (T := nf_Ref) (N := 22) hx hb hts nin_Ref hown hK hP 0 rfl rfl 3 (by decide) (hts _ tw_416) (fun _ h9 => h9) rfl nd_Ref_acts_92 ?_
        refine lv_iload_n hx hb nd_Ref_acts_95 rfl (lv_at hl 1 rfl) ?_
        have b_5 : vp_in x1 11 := vp_in_iff.mpr (by omega)
        refine va_iald hx hb hK hP 3 0 rfl rfl b_5 nd_Ref_acts_96 ?_
        refine lv_iconst (v := 2) hx hb nd_Ref_acts_97 (by decide) ?_
        refine lv_icmp_ne (tgt := 104) hx hb nd_Ref_acts_98 (by decide) (fun c_6 => ?_) (fun c_6 => ?_)
        · have c_6t := cr_ne c_6
          rw [if_neg c_6] at hM
          refine lv_aload_n hx hb nd_Ref_acts_104 rfl (lv_at hl 0 rfl) ?_
          refine lv_iload_n hx hb nd_Ref_acts_105 rfl (lv_at hl 1 rfl) ?_
          have hPc := hP
          have hDc := hD
          have hFc := va_free (wc := cw_Ref cI cZ cJ arf rf lat ln) hD hS hA [0, 1, 2, 3, 4, 5, 6, 7, 8, 9, 10, 11, 12, 13, 14, 15, 16, 17] rfl
          refine va_calli (va_runV (As := [.int x1]) (rest := []) ⟨hx, hb, hml, hown, hts⟩ (ct_Ref_runs l dC dI cI cZ cJ arf s.heap.size rf lat ln x1 hR_rf (by omega)) (cwV 1 hts (ng_V tw_523 tw_525 tp_23 tw_6 tw_526) rfl rfl rfl (by decide +kernel) ⟨Nat.le_of_ble_eq_true rfl, Nat.le_of_ble_eq_true rfl⟩) ⟨fun a U g mk q => by obtain ⟨q0, q1, qP, qK, qD⟩ := q; exact ⟨q0, q1, qP, va_K.moved (u := U) (U := U.calling g mk a) (Vm.Alike.refl U.vm) qK, qD⟩, va_recv hK hPc (ci := 5) (q0 := 0) rfl rfl, fun U hU hW => ⟨rfl, by rw [hU], by rw [hU]; exact hPc, va_K.moved hW.alike hK, hDc.weaken (fun _ _ _ _ => trivial)⟩⟩ rfl rfl hl.1 rfl (lv_room (Nat.le_of_ble_eq_true rfl)) nd_Ref_acts_106 ⟨Nat.zero_le _, Nat.zero_le _⟩) hS (fun q _ h => hFc q h) hFc (fun r_7 u t H1 locs ht hvm hw hB hz1 hk1 hS => ?_)
          obtain ⟨hP1, hK1, hD1⟩ := hB
          rw [ht] at hP1
          have w_8 := hw
          try rw [← w_8] at hM
          have hP := hP1
          have hD := cr_Dw hD1 hFc
          generalize H1 = H at hP hS ⊢
          refine lv_if_ne (tgt := 114) hx hb nd_Ref_acts_109 (by decide) (fun c_9 => ?_) (fun c_9 => ?_)
          · have c_9t := cr_ne c_9
            rw [if_neg c_9] at hM
            refine lv_aload_n hx hb nd_Ref_acts_114 rfl (lv_at hl 0 rfl) ?_
            refine lv_iload_n hx hb nd_Ref_acts_115 rfl (lv_at hl 1 rfl) ?_
            have hPc := hP
            have hDc := hD
            have hFc := va_free (wc := cw_Ref cI cZ cJ arf rf lat ln) hD hS hA [0, 1, 2, 3, 4, 5, 6, 7, 8, 9, 10, 11, 12, 13, 14, 15, 16, 17] rfl
            refine va_calli (va_runV (As := [.int x1]) (rest := []) ⟨hx, hb, hml, hown, hts⟩ (ct_Ref_last l dC dI cI cZ cJ arf H.size rf lat ln x1 hR_rf) (cwV 1 hts (ng_V tw_535 tw_537 tp_26 tw_6 tw_538) rfl rfl rfl (by decide +kernel) ⟨Nat.le_of_ble_eq_true rfl, Nat.le_of_ble_eq_true rfl⟩) ⟨fun a U g mk q => by obtain ⟨q0, q1, qP, qK, qD⟩ := q; exact ⟨q0, q1, qP, va_K.moved (u := U) (U := U.calling g mk a) (Vm.Alike.refl U.vm) qK, qD⟩, va_recv hK hPc (ci := 5) (q0 := 0) rfl rfl, fun U hU hW => ⟨rfl, by rw [hU], by rw [hU]; exact hPc, va_K.moved hW.alike hK, hDc.weaken (fun _ _ _ _ => trivial)⟩⟩ rfl rfl hl.1 rfl (lv_room (Nat.le_of_ble_eq_true rfl)) nd_Ref_acts_116 ⟨Nat.zero_le _, Nat.zero_le _⟩) hS (fun q _ h => hFc q h) hFc (fun r_10 u t H1 locs ht hvm hw hB hz1 hk1 hS => ?_)
            obtain ⟨hP1, hK1, hD1⟩ := hB
            rw [ht] at hP1
            obtain ⟨w_11, f_12⟩ := hw
            try rw [← w_11] at hM
            have hP := hP1
            have hD := cr_Dw hD1 hFc
            generalize H1 = H at hP hS ⊢
            refine lv_istore (lv' := [(4, .int r_10), (0, .ref (arf 0)), (1, .int x1), (2, .int x2), (3, .int x3)]) hx hb nd_Ref_acts_119 hl (by decide) rfl (fun ls hl => ?_)
            refine lv_iload_n hx hb nd_Ref_acts_121 rfl (lv_at hl 3 rfl) ?_
            refine lv_iconst (v := 1) hx hb nd_Ref_acts_122 (by decide) ?_
            refine lv_icmp_ne (tgt := 191) hx hb nd_Ref_acts_123 (by decide) (fun c_13 => ?_) (fun c_13 => ?_)
            · have c_13t := cr_ne c_13
              rw [if_neg c_13] at hM
              refine lv_iload_n hx hb nd_Ref_acts_191 rfl (lv_at hl 3 rfl) ?_
              refine lv_iconst (v := 2) hx hb nd_Ref_acts_192 (by decide) ?_
              refine lv_icmp_ne (tgt := 219) hx hb nd_Ref_acts_193 (by decide) (fun c_14 => ?_) (fun c_14 => ?_)
              · have c_14t := cr_ne c_14
                rw [if_neg c_14] at hM
                refine lv_iload_n hx hb nd_Ref_acts_219 rfl (lv_at hl 3 rfl) ?_
                refine lv_iconst (v := 3) hx hb nd_Ref_acts_220 (by decide) ?_
                refine lv_icmp_ne (tgt := 297) hx hb nd_Ref_acts_221 (by decide) (fun c_15 => ?_) (fun c_15 => ?_)
                · have c_15t := cr_ne c_15
                  rw [if_neg c_15] at hM
                  refine lv_iload hx hb nd_Ref_acts_297 (lv_at hl 0 rfl) ?_
                  refine lv_if_le (tgt := 305) hx hb nd_Ref_acts_299 (by decide) (fun c_16 => ?_) (fun c_16 => ?_)
                  · have c_16t := cr_le c_16
                    rw [if_pos c_16] at hM
                    refine lv_aload_n hx hb nd_Ref_acts_305 rfl (lv_at hl 1 rfl) ?_
                    refine va_get (D := (dC, dI)) (ci := 5) (v := .ref (arf 5)) (C := "CeilingRowsModel") (T := nf_Ref) (N := 22) hx hb hts nin_Ref hown hK hP 0 rfl rfl 6 (by decide) (hts _ tw_419) (fun _ h9 => h9) rfl nd_Ref_acts_306 ?_
                    refine lv_iload_n hx hb nd_Ref_acts_309 rfl (lv_at hl 2 rfl) ?_
                    have b_17 : vp_in x1 11 := vp_in_iff.mpr (by omega)
                    refine va_zald hx hb hK hP 5 1 rfl rfl b_17 nd_Ref_acts_310 ?_
                    refine lv_if_eq (tgt := 323) hx hb nd_Ref_acts_311 (by decide) (fun c_18 => ?_) (fun c_18 => ?_)
                    · have c_18t := cr_eq c_18
                      rw [if_pos c_18] at hM
                      refine lv_aload_n hx hb nd_Ref_acts_323 rfl (lv_at hl 1 rfl) ?_
                      refine va_get (D := (dC, dI)) (ci := 5) (v := .ref (arf 3)) (C := "CeilingRowsModel") (T := nf_Ref) (N := 22) hx hb hts nin_Ref hown hK hP 0 rfl rfl 3 (by decide) (hts _ tw_416) (fun _ h9 => h9) rfl nd_Ref_acts_324 ?_
                      refine lv_iload_n hx hb nd_Ref_acts_327 rfl (lv_at hl 2 rfl) ?_
                      refine lv_iconst (v := 2) hx hb nd_Ref_acts_328 (by decide) ?_
                      have b_19 : vp_in x1 11 := vp_in_iff.mpr (by omega)
                      refine va_iast hx hb hK hP hD hS 3 0 rfl rfl b_19 nd_Ref_acts_329 (fun H locs hP hD hS => ?_)
                      have hP : va_P (dC, dI) vwCl (cw_Ref cI cZ cJ arf (cr_up rf 3 x1.toNatClampNeg (2 : Int32)) lat ln) H := hP
                      have hD : va_D A (cw_Ref cI cZ cJ arf (cr_up rf 3 x1.toNatClampNeg (2 : Int32)) lat ln) := hD
                      have hR_20 : cr_RRef (cr_up rf 3 x1.toNatClampNeg (2 : Int32)) := ⟨cr_rf_up hR_rf.1 (fun e _ => absurd e (by decide)), cr_rf_up hR_rf.2.1 (fun e _ => absurd e (by decide)), cr_rg_up hR_rf.2.2.1 (fun e => absurd e (by decide)), cr_rg_up hR_rf.2.2.2.1 (fun e => absurd e (by decide)), cr_rg_up hR_rf.2.2.2.2.1 (fun e => absurd e (by decide)), cr_rh_up hR_rf.2.2.2.2.2 (fun e => absurd e (by decide))⟩
                      obtain ⟨rfq_21, hrfq_21⟩ : ∃ z, (cr_up rf 3 x1.toNatClampNeg (2 : Int32)) = z := ⟨_, rfl⟩
                      rw [hrfq_21] at hP hD hR_20
                      try rw [hrfq_21] at hM
                      refine lv_iconst (v := 0) hx hb nd_Ref_acts_330 (by decide) ?_
                      exact W.iret (v := (0 : Int32)) hx hb hr (fun t ht hW => ⟨⟨(0 : Int32), rfq_21, rfl, ⟨by rw [hT, ← hM], by rw [hT, ← hM], hR_20⟩, by rw [ht]; exact hP, va_K.moved hW.alike hK, hD⟩, hS.F ht⟩) hS.2.2 nd_Ref_acts_331
                    · have c_18t := cr_ne c_18
                      rw [if_neg c_18] at hM
                      refine lv_aload_n hx hb nd_Ref_acts_314 rfl (lv_at hl 1 rfl) ?_
                      refine va_get (D := (dC, dI)) (ci := 5) (v := .ref (arf 5)) (C := "CeilingRowsModel") (T := nf_Ref) (N := 22) hx hb hts nin_Ref hown hK hP 0 rfl rfl 6 (by decide) (hts _ tw_419) (fun _ h9 => h9) rfl nd_Ref_acts_315 ?_
                      refine lv_iload_n hx hb nd_Ref_acts_318 rfl (lv_at hl 2 rfl) ?_
                      refine lv_iconst (v := 0) hx hb nd_Ref_acts_319 (by decide) ?_
                      have b_22 : vp_in x1 11 := vp_in_iff.mpr (by omega)
                      refine va_zast hx hb hK hP hD hS 5 1 rfl rfl b_22 nd_Ref_acts_320 (fun H locs hP hD hS => ?_)
                      rw [show vp_nar .boolean (0 : Int32) = (0 : Int32) by decide] at hP hD
                      have hP : va_P (dC, dI) vwCl (cw_Ref cI cZ cJ arf (cr_up rf 5 x1.toNatClampNeg (0 : Int32)) lat ln) H := hP
                      have hD : va_D A (cw_Ref cI cZ cJ arf (cr_up rf 5 x1.toNatClampNeg (0 : Int32)) lat ln) := hD
                      have hR_23 : cr_RRef (cr_up rf 5 x1.toNatClampNeg (0 : Int32)) := ⟨cr_rf_up hR_rf.1 (fun e _ => absurd e (by decide)), cr_rf_up hR_rf.2.1 (fun e _ => absurd e (by decide)), cr_rg_up hR_rf.2.2.1 (fun e => absurd e (by decide)), cr_rg_up hR_rf.2.2.2.1 (fun e => absurd e (by decide)), cr_rg_up hR_rf.2.2.2.2.1 (fun e => absurd e (by decide)), cr_rh_up hR_rf.2.2.2.2.2 (fun e => absurd e (by decide))⟩
                      obtain ⟨rfq_24, hrfq_24⟩ : ∃ z, (cr_up rf 5 x1.toNatClampNeg (0 : Int32)) = z := ⟨_, rfl⟩
                      rw [hrfq_24] at hP hD hR_23
                      try rw [hrfq_24] at hM
                      refine lv_iconst (v := 1) hx hb nd_Ref_acts_321 (by decide) ?_
                      exact W.iret (v := (1 : Int32)) hx hb hr (fun t ht hW => ⟨⟨(1 : Int32), rfq_24, rfl, ⟨by rw [hT, ← hM], by rw [hT, ← hM], hR_23⟩, by rw [ht]; exact hP, va_K.moved hW.alike hK, hD⟩, hS.F ht⟩) hS.2.2 nd_Ref_acts_322
                  · have c_16t := cr_nle c_16
                    rw [if_neg c_16] at hM
                    refine lv_bipush (v := -15) hx hb nd_Ref_acts_302 (by decide) ?_
                    exact W.iret (v := (-15 : Int32)) hx hb hr (fun t ht hW => ⟨⟨(-15 : Int32), rf, rfl, ⟨by rw [hT, ← hM], by rw [hT, ← hM], hR_rf⟩, by rw [ht]; exact hP, va_K.moved hW.alike hK, hD⟩, hS.F ht⟩) hS.2.2 nd_Ref_acts_304
                · have c_15t := cr_eq c_15
                  rw [if_pos c_15] at hM
                  refine lv_aload_n hx hb nd_Ref_acts_224 rfl (lv_at hl 1 rfl) ?_
                  refine va_get (D := (dC, dI)) (ci := 5) (v := .ref (arf 3)) (C := "CeilingRowsModel") (T := nf_Ref) (N := 22) hx hb hts nin_Ref hown hK hP 0 rfl rfl 3 (by decide) (hts _ tw_416) (fun _ h9 => h9) rfl nd_Ref_acts_225 ?_
                  refine lv_iload_n hx hb nd_Ref_acts_228 rfl (lv_at hl 2 rfl) ?_
                  refine lv_iconst (v := 0) hx hb nd_Ref_acts_229 (by decide) ?_
                  have b_25 : vp_in x1 11 := vp_in_iff.mpr (by omega)
                  refine va_iast hx hb hK hP hD hS 3 0 rfl rfl b_25 nd_Ref_acts_230 (fun H locs hP hD hS => ?_)
                  have hP : va_P (dC, dI) vwCl (cw_Ref cI cZ cJ arf (cr_up rf 3 x1.toNatClampNeg (0 : Int32)) lat ln) H := hP
                  have hD : va_D A (cw_Ref cI cZ cJ arf (cr_up rf 3 x1.toNatClampNeg (0 : Int32)) lat ln) := hD
                  have hR_26 : cr_RRef (cr_up rf 3 x1.toNatClampNeg (0 : Int32)) := ⟨cr_rf_up hR_rf.1 (fun e _ => absurd e (by decide)), cr_rf_up hR_rf.2.1 (fun e _ => absurd e (by decide)), cr_rg_up hR_rf.2.2.1 (fun e => absurd e (by decide)), cr_rg_up hR_rf.2.2.2.1 (fun e => absurd e (by decide)), cr_rg_up hR_rf.2.2.2.2.1 (fun e => absurd e (by decide)), cr_rh_up hR_rf.2.2.2.2.2 (fun e => absurd e (by decide))⟩
                  obtain ⟨rfq_27, hrfq_27⟩ : ∃ z, (cr_up rf 3 x1.toNatClampNeg (0 : Int32)) = z := ⟨_, rfl⟩
                  rw [hrfq_27] at hP hD hR_26
                  try rw [hrfq_27] at hM
                  refine lv_aload_n hx hb nd_Ref_acts_231 rfl (lv_at hl 1 rfl) ?_
                  refine va_get (D := (dC, dI)) (ci := 5) (v := .ref (arf 5)) (C := "CeilingRowsModel") (T := nf_Ref) (N := 22) hx hb hts nin_Ref hown hK hP 0 rfl rfl 6 (by decide) (hts _ tw_419) (fun _ h9 => h9) rfl nd_Ref_acts_232 ?_
                  refine lv_iload_n hx hb nd_Ref_acts_235 rfl (lv_at hl 2 rfl) ?_
                  refine lv_iconst (v := 0) hx hb nd_Ref_acts_236 (by decide) ?_
                  have b_28 : vp_in x1 11 := vp_in_iff.mpr (by omega)
                  refine va_zast hx hb hK hP hD hS 5 1 rfl rfl b_28 nd_Ref_acts_237 (fun H locs hP hD hS => ?_)
                  rw [show vp_nar .boolean (0 : Int32) = (0 : Int32) by decide] at hP hD
                  have hP : va_P (dC, dI) vwCl (cw_Ref cI cZ cJ arf (cr_up rfq_27 5 x1.toNatClampNeg (0 : Int32)) lat ln) H := hP
                  have hD : va_D A (cw_Ref cI cZ cJ arf (cr_up rfq_27 5 x1.toNatClampNeg (0 : Int32)) lat ln) := hD
                  have hR_29 : cr_RRef (cr_up rfq_27 5 x1.toNatClampNeg (0 : Int32)) := ⟨cr_rf_up hR_26.1 (fun e _ => absurd e (by decide)), cr_rf_up hR_26.2.1 (fun e _ => absurd e (by decide)), cr_rg_up hR_26.2.2.1 (fun e => absurd e (by decide)), cr_rg_up hR_26.2.2.2.1 (fun e => absurd e (by decide)), cr_rg_up hR_26.2.2.2.2.1 (fun e => absurd e (by decide)), cr_rh_up hR_26.2.2.2.2.2 (fun e => absurd e (by decide))⟩
                  obtain ⟨rfq_30, hrfq_30⟩ : ∃ z, (cr_up rfq_27 5 x1.toNatClampNeg (0 : Int32)) = z := ⟨_, rfl⟩
                  rw [hrfq_30] at hP hD hR_29
                  try rw [hrfq_30] at hM
                  refine lv_iconst (v := 1) hx hb nd_Ref_acts_238 (by decide) ?_
                  refine lv_istore (lv' := [(5, .int (1 : Int32)), (4, .int r_10), (0, .ref (arf 0)), (1, .int x1), (2, .int x2), (3, .int x3)]) hx hb nd_Ref_acts_239 hl (by decide) rfl (fun ls hl => ?_)
                  have hl := lv_sub hl [2, 3, 1, 0] rfl
                  have lp_241 : ∀ (n_241 : Nat) (rf_241 : cr_S) (v5_241 : Int32), (cr_RRef rf_241) → (1 ≤ v5_241.toInt ∧ v5_241.toInt ≤ 9) → (9 < v5_241.toInt + (n_241 : Int)) → lo_Ref_acts_241 lat ln x1 x2 x3 r_10 n_241 rf_241 v5_241 = tgt → ∀ (H : Heap) (locs : List Loc), va_P (dC, dI) vwCl (cw_Ref cI cZ cJ arf rf_241 lat ln) H → va_D A (cw_Ref cI cZ cJ arf rf_241 lat ln) → va_S A s.heap H locs → ∀ ls : Array Slot, lv_has ls 6 [(0, .ref (arf 0)), (1, .int x1), (4, .int r_10), (5, .int v5_241)] → W p l e (headSpec nw_Ref_acts ({ frames := 4, cells := 0, slots := 0, locals := 91 } : Room)).room s m ([.ref (arf 0), .int x1, .int x2, .int x3] : List Value).toArray below meth c H locs 0 0 (MQ below (pq_Ref_acts dC dI cI cZ cJ arf rf lat ln x1 x2 x3 A) ([.ref (arf 0), .int x1, .int x2, .int x3] : List Value).toArray s 0 0 A) (F0 m 241 ls []) := by
                    intro n_241
                    induction n_241 with
                    | zero =>
                      intro rf_241 v5_241 hR_rf_241 hv5_241 hn_241
                      exfalso; omega
                    | succ n_241 ih_241 =>
                      intro rf_241 v5_241 hR_rf_241 hv5_241 hn_241 hM H locs hP hD hS ls hl
                      have hn_241 : 9 < v5_241.toInt + ((n_241 : Int) + 1) := by omega
                      rw [lo_Ref_acts_241] at hM
                      refine lv_iload hx hb nd_Ref_acts_241 (lv_at hl 3 rfl) ?_
                      refine lv_aload_n hx hb nd_Ref_acts_243 rfl (lv_at hl 0 rfl) ?_
                      refine va_get (D := (dC, dI)) (ci := 5) (v := .int (rf_241 0 2)) (C := "CeilingRowsModel") (T := nf_Ref) (N := 22) hx hb hts nin_Ref hown hK hP 0 rfl rfl 7 (by decide) (hts _ tw_420) (fun _ h9 => h9) rfl nd_Ref_acts_244 ?_
                      have f_31 := cr_rfo hR_rf_241.2.1
                      refine lv_icmp_gt (tgt := 285) hx hb nd_Ref_acts_247 (by decide) (fun c_32 => ?_) (fun c_32 => ?_)
                      · have c_32t := cr_lt c_32
                        rw [if_pos c_32] at hM
                        refine lv_iload hx hb nd_Ref_acts_285 (lv_at hl 2 rfl) ?_
                        refine lv_if_le (tgt := 295) hx hb nd_Ref_acts_287 (by decide) (fun c_33 => ?_) (fun c_33 => ?_)
                        · have c_33t := cr_le c_33
                          rw [if_pos c_33] at hM
                          refine lv_iconst (v := 1) hx hb nd_Ref_acts_295 (by decide) ?_
                          exact W.iret (v := (1 : Int32)) hx hb hr (fun t ht hW => ⟨⟨(1 : Int32), rf_241, rfl, ⟨by rw [hT, ← hM], by rw [hT, ← hM], hR_rf_241⟩, by rw [ht]; exact hP, va_K.moved hW.alike hK, hD⟩, hS.F ht⟩) hS.2.2 nd_Ref_acts_296
                        · have c_33t := cr_nle c_33
                          rw [if_neg c_33] at hM
                          refine lv_bipush (v := -14) hx hb nd_Ref_acts_290 (by decide) ?_
                          refine lv_goto (tgt := 296) hx hb nd_Ref_acts_292 (by decide) ?_
                          exact W.iret (v := (-14 : Int32)) hx hb hr (fun t ht hW => ⟨⟨(-14 : Int32), rf_241, rfl, ⟨by rw [hT, ← hM], by rw [hT, ← hM], hR_rf_241⟩, by rw [ht]; exact hP, va_K.moved hW.alike hK, hD⟩, hS.F ht⟩) hS.2.2 nd_Ref_acts_296
                      · have c_32t := cr_nlt c_32
                        rw [if_neg c_32] at hM
                        refine lv_aload_n hx hb nd_Ref_acts_250 rfl (lv_at hl 0 rfl) ?_
                        refine va_get (D := (dC, dI)) (ci := 5) (v := .ref (arf 7)) (C := "CeilingRowsModel") (T := nf_Ref) (N := 22) hx hb hts nin_Ref hown hK hP 0 rfl rfl 9 (by decide) (hts _ tw_422) (fun _ h9 => h9) rfl nd_Ref_acts_251 ?_
                        refine lv_iload hx hb nd_Ref_acts_254 (lv_at hl 3 rfl) ?_
                        refine lv_aload_n hx hb nd_Ref_acts_256 rfl (lv_at hl 0 rfl) ?_
                        refine va_get (D := (dC, dI)) (ci := 5) (v := .ref (arf 7)) (C := "CeilingRowsModel") (T := nf_Ref) (N := 22) hx hb hts nin_Ref hown hK hP 0 rfl rfl 9 (by decide) (hts _ tw_422) (fun _ h9 => h9) rfl nd_Ref_acts_257 ?_
                        refine lv_iload hx hb nd_Ref_acts_260 (lv_at hl 3 rfl) ?_
                        have b_34 : vp_in v5_241 9 := vp_in_iff.mpr (by omega)
                        refine va_iald hx hb hK hP 7 0 rfl rfl b_34 nd_Ref_acts_262 ?_
                        refine lv_iload_n hx hb nd_Ref_acts_263 rfl (lv_at hl 1 rfl) ?_
                        refine lv_icmp_ne (tgt := 271) hx hb nd_Ref_acts_264 (by decide) (fun c_35 => ?_) (fun c_35 => ?_)
                        · have c_35t := cr_ne c_35
                          rw [if_neg c_35] at hM
                          refine lv_aload_n hx hb nd_Ref_acts_271 rfl (lv_at hl 0 rfl) ?_
                          refine va_get (D := (dC, dI)) (ci := 5) (v := .ref (arf 7)) (C := "CeilingRowsModel") (T := nf_Ref) (N := 22) hx hb hts nin_Ref hown hK hP 0 rfl rfl 9 (by decide) (hts _ tw_422) (fun _ h9 => h9) rfl nd_Ref_acts_272 ?_
                          refine lv_iload hx hb nd_Ref_acts_275 (lv_at hl 3 rfl) ?_
                          have b_36 : vp_in v5_241 9 := vp_in_iff.mpr (by omega)
                          refine va_iald hx hb hK hP 7 0 rfl rfl b_36 nd_Ref_acts_277 ?_
                          have b_37 : vp_in v5_241 9 := vp_in_iff.mpr (by omega)
                          refine va_iast hx hb hK hP hD hS 7 0 rfl rfl b_37 nd_Ref_acts_278 (fun H locs hP hD hS => ?_)
                          have hP : va_P (dC, dI) vwCl (cw_Ref cI cZ cJ arf (cr_up rf_241 7 v5_241.toNatClampNeg (rf_241 7 v5_241.toNatClampNeg)) lat ln) H := hP
                          have hD : va_D A (cw_Ref cI cZ cJ arf (cr_up rf_241 7 v5_241.toNatClampNeg (rf_241 7 v5_241.toNatClampNeg)) lat ln) := hD
                          have hR_38 : cr_RRef (cr_up rf_241 7 v5_241.toNatClampNeg (rf_241 7 v5_241.toNatClampNeg)) := ⟨cr_rf_up hR_rf_241.1 (fun e _ => absurd e (by decide)), cr_rf_up hR_rf_241.2.1 (fun e _ => absurd e (by decide)), cr_rg_up hR_rf_241.2.2.1 (fun e => absurd e (by decide)), cr_rg_up hR_rf_241.2.2.2.1 (fun e => absurd e (by decide)), cr_rg_up hR_rf_241.2.2.2.2.1 (fun e => absurd e (by decide)), cr_rh_up hR_rf_241.2.2.2.2.2 (fun e => absurd e (by decide))⟩
                          obtain ⟨rfq_39, hrfq_39⟩ : ∃ z, (cr_up rf_241 7 v5_241.toNatClampNeg (rf_241 7 v5_241.toNatClampNeg)) = z := ⟨_, rfl⟩
                          rw [hrfq_39] at hP hD hR_38
                          try rw [hrfq_39] at hM
                          have e_40 : (v5_241 + (1 : Int32)).toInt = v5_241.toInt + (1 : Int32).toInt := cr_add (by omega)
                          refine lv_iinc (v := (v5_241 + (1 : Int32))) (lv' := [(5, .int (v5_241 + (1 : Int32))), (0, .ref (arf 0)), (1, .int x1), (4, .int r_10)]) hx hb nd_Ref_acts_279 hl (k := 3) rfl (by rfl) (by decide) rfl (fun ls hl => ?_)
                          refine lv_goto (tgt := 241) hx hb nd_Ref_acts_282 (by decide) ?_
                          exact ih_241 rfq_39 (v5_241 + (1 : Int32)) hR_38 (by omega) (by omega) hM _ _ hP hD hS _ (lv_sub hl [1, 2, 3, 0] rfl)
                        · have c_35t := cr_eq c_35
                          rw [if_pos c_35] at hM
                          refine lv_iconst (v := 0) hx hb nd_Ref_acts_267 (by decide) ?_
                          refine lv_goto (tgt := 278) hx hb nd_Ref_acts_268 (by decide) ?_
                          have b_41 : vp_in v5_241 9 := vp_in_iff.mpr (by omega)
                          refine va_iast hx hb hK hP hD hS 7 0 rfl rfl b_41 nd_Ref_acts_278 (fun H locs hP hD hS => ?_)
                          have hP : va_P (dC, dI) vwCl (cw_Ref cI cZ cJ arf (cr_up rf_241 7 v5_241.toNatClampNeg (0 : Int32)) lat ln) H := hP
                          have hD : va_D A (cw_Ref cI cZ cJ arf (cr_up rf_241 7 v5_241.toNatClampNeg (0 : Int32)) lat ln) := hD
                          have hR_42 : cr_RRef (cr_up rf_241 7 v5_241.toNatClampNeg (0 : Int32)) := ⟨cr_rf_up hR_rf_241.1 (fun e _ => absurd e (by decide)), cr_rf_up hR_rf_241.2.1 (fun e _ => absurd e (by decide)), cr_rg_up hR_rf_241.2.2.1 (fun e => absurd e (by decide)), cr_rg_up hR_rf_241.2.2.2.1 (fun e => absurd e (by decide)), cr_rg_up hR_rf_241.2.2.2.2.1 (fun e => absurd e (by decide)), cr_rh_up hR_rf_241.2.2.2.2.2 (fun e => absurd e (by decide))⟩
                          obtain ⟨rfq_43, hrfq_43⟩ : ∃ z, (cr_up rf_241 7 v5_241.toNatClampNeg (0 : Int32)) = z := ⟨_, rfl⟩
                          rw [hrfq_43] at hP hD hR_42
                          try rw [hrfq_43] at hM
                          have e_44 : (v5_241 + (1 : Int32)).toInt = v5_241.toInt + (1 : Int32).toInt := cr_add (by omega)
                          refine lv_iinc (v := (v5_241 + (1 : Int32))) (lv' := [(5, .int (v5_241 + (1 : Int32))), (0, .ref (arf 0)), (1, .int x1), (4, .int r_10)]) hx hb nd_Ref_acts_279 hl (k := 3) rfl (by rfl) (by decide) rfl (fun ls hl => ?_)
                          refine lv_goto (tgt := 241) hx hb nd_Ref_acts_282 (by decide) ?_
                          exact ih_241 rfq_43 (v5_241 + (1 : Int32)) hR_42 (by omega) (by omega) hM _ _ hP hD hS _ (lv_sub hl [1, 2, 3, 0] rfl)
                  exact lp_241 9 rfq_30 (1 : Int32) hR_29 (by omega) (by omega) hM _ _ hP hD hS _ hl
              · have c_14t := cr_eq c_14
                rw [if_pos c_14] at hM
                refine lv_iload hx hb nd_Ref_acts_196 (lv_at hl 0 rfl) ?_
                refine lv_if_eq (tgt := 207) hx hb nd_Ref_acts_198 (by decide) (fun c_45 => ?_) (fun c_45 => ?_)
                · have c_45t := cr_eq c_45
                  rw [if_pos c_45] at hM
                  refine lv_bipush (v := -13) hx hb nd_Ref_acts_207 (by decide) ?_
                  exact W.iret (v := (-13 : Int32)) hx hb hr (fun t ht hW => ⟨⟨(-13 : Int32), rf, rfl, ⟨by rw [hT, ← hM], by rw [hT, ← hM], hR_rf⟩, by rw [ht]; exact hP, va_K.moved hW.alike hK, hD⟩, hS.F ht⟩) hS.2.2 nd_Ref_acts_209
                · have c_45t := cr_ne c_45
                  rw [if_neg c_45] at hM
                  refine lv_iload hx hb nd_Ref_acts_201 (lv_at hl 0 rfl) ?_
                  refine lv_iload_n hx hb nd_Ref_acts_203 rfl (lv_at hl 4 rfl) ?_
                  refine lv_icmp_eq (tgt := 210) hx hb nd_Ref_acts_204 (by decide) (fun c_46 => ?_) (fun c_46 => ?_)
                  · have c_46t := cr_eq c_46
                    rw [if_pos c_46] at hM
                    refine lv_aload_n hx hb nd_Ref_acts_210 rfl (lv_at hl 1 rfl) ?_
                    refine va_get (D := (dC, dI)) (ci := 5) (v := .ref (arf 7)) (C := "CeilingRowsModel") (T := nf_Ref) (N := 22) hx hb hts nin_Ref hown hK hP 0 rfl rfl 9 (by decide) (hts _ tw_422) (fun _ h9 => h9) rfl nd_Ref_acts_211 ?_
                    refine lv_iload_n hx hb nd_Ref_acts_214 rfl (lv_at hl 4 rfl) ?_
                    refine lv_iconst (v := 0) hx hb nd_Ref_acts_215 (by decide) ?_
                    have b_47 : vp_in x3 9 := vp_in_iff.mpr (by omega)
                    refine va_iast hx hb hK hP hD hS 7 0 rfl rfl b_47 nd_Ref_acts_216 (fun H locs hP hD hS => ?_)
                    have hP : va_P (dC, dI) vwCl (cw_Ref cI cZ cJ arf (cr_up rf 7 x3.toNatClampNeg (0 : Int32)) lat ln) H := hP
                    have hD : va_D A (cw_Ref cI cZ cJ arf (cr_up rf 7 x3.toNatClampNeg (0 : Int32)) lat ln) := hD
                    have hR_48 : cr_RRef (cr_up rf 7 x3.toNatClampNeg (0 : Int32)) := ⟨cr_rf_up hR_rf.1 (fun e _ => absurd e (by decide)), cr_rf_up hR_rf.2.1 (fun e _ => absurd e (by decide)), cr_rg_up hR_rf.2.2.1 (fun e => absurd e (by decide)), cr_rg_up hR_rf.2.2.2.1 (fun e => absurd e (by decide)), cr_rg_up hR_rf.2.2.2.2.1 (fun e => absurd e (by decide)), cr_rh_up hR_rf.2.2.2.2.2 (fun e => absurd e (by decide))⟩
                    obtain ⟨rfq_49, hrfq_49⟩ : ∃ z, (cr_up rf 7 x3.toNatClampNeg (0 : Int32)) = z := ⟨_, rfl⟩
                    rw [hrfq_49] at hP hD hR_48
                    try rw [hrfq_49] at hM
                    refine lv_iconst (v := 1) hx hb nd_Ref_acts_217 (by decide) ?_
                    exact W.iret (v := (1 : Int32)) hx hb hr (fun t ht hW => ⟨⟨(1 : Int32), rfq_49, rfl, ⟨by rw [hT, ← hM], by rw [hT, ← hM], hR_48⟩, by rw [ht]; exact hP, va_K.moved hW.alike hK, hD⟩, hS.F ht⟩) hS.2.2 nd_Ref_acts_218
                  · have c_46t := cr_ne c_46
                    rw [if_neg c_46] at hM
                    refine lv_bipush (v := -13) hx hb nd_Ref_acts_207 (by decide) ?_
                    exact W.iret (v := (-13 : Int32)) hx hb hr (fun t ht hW => ⟨⟨(-13 : Int32), rf, rfl, ⟨by rw [hT, ← hM], by rw [hT, ← hM], hR_rf⟩, by rw [ht]; exact hP, va_K.moved hW.alike hK, hD⟩, hS.F ht⟩) hS.2.2 nd_Ref_acts_209
            · have c_13t := cr_eq c_13
              rw [if_pos c_13] at hM
              refine lv_aload_n hx hb nd_Ref_acts_126 rfl (lv_at hl 1 rfl) ?_
              refine va_get (D := (dC, dI)) (ci := 5) (v := .ref (arf 6)) (C := "CeilingRowsModel") (T := nf_Ref) (N := 22) hx hb hts nin_Ref hown hK hP 0 rfl rfl 8 (by decide) (hts _ tw_421) (fun _ h9 => h9) rfl nd_Ref_acts_127 ?_
              refine lv_bipush (v := 9) hx hb nd_Ref_acts_130 (by decide) ?_
              refine lv_iload_n hx hb nd_Ref_acts_132 rfl (lv_at hl 2 rfl) ?_
              refine lv_imul hx hb nd_Ref_acts_133 ?_
              have e_50 : ((9 : Int32) * x1).toInt = 9 * x1.toInt := cr_mulL 9 k_9 (by omega)
              refine lv_iload_n hx hb nd_Ref_acts_134 rfl (lv_at hl 4 rfl) ?_
              refine lv_iadd hx hb nd_Ref_acts_135 ?_
              have e_51 : (((9 : Int32) * x1) + x3).toInt = ((9 : Int32) * x1).toInt + x3.toInt := cr_add (by omega)
              have b_52 : vp_in (((9 : Int32) * x1) + x3) 99 := vp_in_iff.mpr (by omega)
              refine va_lald hx hb hK hP 6 2 rfl rfl b_52 nd_Ref_acts_136 ?_
              refine lv_lconst (v := 0) hx hb nd_Ref_acts_137 (by decide) ?_
              refine W.lcmp hx hb nd_Ref_acts_138 ?_
              refine lv_if_ne (tgt := 145) hx hb nd_Ref_acts_139 (by decide) (fun c_53 => ?_) (fun c_53 => ?_)
              · have c_53t := cr_ne c_53
                rw [if_neg c_53] at hM
                refine lv_aload_n hx hb nd_Ref_acts_145 rfl (lv_at hl 1 rfl) ?_
                refine va_get (D := (dC, dI)) (ci := 5) (v := .ref (arf 7)) (C := "CeilingRowsModel") (T := nf_Ref) (N := 22) hx hb hts nin_Ref hown hK hP 0 rfl rfl 9 (by decide) (hts _ tw_422) (fun _ h9 => h9) rfl nd_Ref_acts_146 ?_
                refine lv_iload_n hx hb nd_Ref_acts_149 rfl (lv_at hl 4 rfl) ?_
                have b_54 : vp_in x3 9 := vp_in_iff.mpr (by omega)
                refine va_iald hx hb hK hP 7 0 rfl rfl b_54 nd_Ref_acts_150 ?_
                refine lv_iload_n hx hb nd_Ref_acts_151 rfl (lv_at hl 2 rfl) ?_
                refine lv_icmp_ne (tgt := 158) hx hb nd_Ref_acts_152 (by decide) (fun c_55 => ?_) (fun c_55 => ?_)
                · have c_55t := cr_ne c_55
                  rw [if_neg c_55] at hM
                  refine lv_aload_n hx hb nd_Ref_acts_158 rfl (lv_at hl 1 rfl) ?_
                  refine va_get (D := (dC, dI)) (ci := 5) (v := .ref (arf 7)) (C := "CeilingRowsModel") (T := nf_Ref) (N := 22) hx hb hts nin_Ref hown hK hP 0 rfl rfl 9 (by decide) (hts _ tw_422) (fun _ h9 => h9) rfl nd_Ref_acts_159 ?_
                  refine lv_iload_n hx hb nd_Ref_acts_162 rfl (lv_at hl 4 rfl) ?_
                  refine lv_iload_n hx hb nd_Ref_acts_163 rfl (lv_at hl 2 rfl) ?_
                  have b_56 : vp_in x3 9 := vp_in_iff.mpr (by omega)
                  refine va_iast hx hb hK hP hD hS 7 0 rfl rfl b_56 nd_Ref_acts_164 (fun H locs hP hD hS => ?_)
                  have hP : va_P (dC, dI) vwCl (cw_Ref cI cZ cJ arf (cr_up rf 7 x3.toNatClampNeg x1) lat ln) H := hP
                  have hD : va_D A (cw_Ref cI cZ cJ arf (cr_up rf 7 x3.toNatClampNeg x1) lat ln) := hD
                  have hR_57 : cr_RRef (cr_up rf 7 x3.toNatClampNeg x1) := ⟨cr_rf_up hR_rf.1 (fun e _ => absurd e (by decide)), cr_rf_up hR_rf.2.1 (fun e _ => absurd e (by decide)), cr_rg_up hR_rf.2.2.1 (fun e => absurd e (by decide)), cr_rg_up hR_rf.2.2.2.1 (fun e => absurd e (by decide)), cr_rg_up hR_rf.2.2.2.2.1 (fun e => absurd e (by decide)), cr_rh_up hR_rf.2.2.2.2.2 (fun e => absurd e (by decide))⟩
                  obtain ⟨rfq_58, hrfq_58⟩ : ∃ z, (cr_up rf 7 x3.toNatClampNeg x1) = z := ⟨_, rfl⟩
                  rw [hrfq_58] at hP hD hR_57
                  try rw [hrfq_58] at hM
                  refine lv_aload_n hx hb nd_Ref_acts_165 rfl (lv_at hl 1 rfl) ?_
                  refine va_get (D := (dC, dI)) (ci := 5) (v := .ref (arf 8)) (C := "CeilingRowsModel") (T := nf_Ref) (N := 22) hx hb hts nin_Ref hown hK hP 0 rfl rfl 10 (by decide) (hts _ tw_423) (fun _ h9 => h9) rfl nd_Ref_acts_166 ?_
                  refine lv_iload_n hx hb nd_Ref_acts_169 rfl (lv_at hl 4 rfl) ?_
                  refine lv_iload hx hb nd_Ref_acts_170 (lv_at hl 0 rfl) ?_
                  refine lv_if_ne (tgt := 179) hx hb nd_Ref_acts_172 (by decide) (fun c_59 => ?_) (fun c_59 => ?_)
                  · have c_59t := cr_ne c_59
                    rw [if_neg c_59] at hM
                    refine lv_aload_n hx hb nd_Ref_acts_179 rfl (lv_at hl 1 rfl) ?_
                    refine va_get (D := (dC, dI)) (ci := 5) (v := .ref (arf 8)) (C := "CeilingRowsModel") (T := nf_Ref) (N := 22) hx hb hts nin_Ref hown hK hP 0 rfl rfl 10 (by decide) (hts _ tw_423) (fun _ h9 => h9) rfl nd_Ref_acts_180 ?_
                    refine lv_iload hx hb nd_Ref_acts_183 (lv_at hl 0 rfl) ?_
                    have b_60 : vp_in r_10 9 := vp_in_iff.mpr (by omega)
                    refine va_iald hx hb hK hP 8 0 rfl rfl b_60 nd_Ref_acts_185 ?_
                    refine lv_iconst (v := 1) hx hb nd_Ref_acts_186 (by decide) ?_
                    refine lv_iadd hx hb nd_Ref_acts_187 ?_
                    have b_61 : vp_in x3 9 := vp_in_iff.mpr (by omega)
                    refine va_iast hx hb hK hP hD hS 8 0 rfl rfl b_61 nd_Ref_acts_188 (fun H locs hP hD hS => ?_)
                    have hP : va_P (dC, dI) vwCl (cw_Ref cI cZ cJ arf (cr_up rfq_58 8 x3.toNatClampNeg ((rfq_58 8 r_10.toNatClampNeg) + (1 : Int32))) lat ln) H := hP
                    have hD : va_D A (cw_Ref cI cZ cJ arf (cr_up rfq_58 8 x3.toNatClampNeg ((rfq_58 8 r_10.toNatClampNeg) + (1 : Int32))) lat ln) := hD
                    have hR_62 : cr_RRef (cr_up rfq_58 8 x3.toNatClampNeg ((rfq_58 8 r_10.toNatClampNeg) + (1 : Int32))) := ⟨cr_rf_up hR_57.1 (fun e _ => absurd e (by decide)), cr_rf_up hR_57.2.1 (fun e _ => absurd e (by decide)), cr_rg_up hR_57.2.2.1 (fun e => absurd e (by decide)), cr_rg_up hR_57.2.2.2.1 (fun e => absurd e (by decide)), cr_rg_up hR_57.2.2.2.2.1 (fun e => absurd e (by decide)), cr_rh_up hR_57.2.2.2.2.2 (fun e => absurd e (by decide))⟩
                    obtain ⟨rfq_63, hrfq_63⟩ : ∃ z, (cr_up rfq_58 8 x3.toNatClampNeg ((rfq_58 8 r_10.toNatClampNeg) + (1 : Int32))) = z := ⟨_, rfl⟩
                    rw [hrfq_63] at hP hD hR_62
                    try rw [hrfq_63] at hM
                    refine lv_iconst (v := 1) hx hb nd_Ref_acts_189 (by decide) ?_
                    exact W.iret (v := (1 : Int32)) hx hb hr (fun t ht hW => ⟨⟨(1 : Int32), rfq_63, rfl, ⟨by rw [hT, ← hM], by rw [hT, ← hM], hR_62⟩, by rw [ht]; exact hP, va_K.moved hW.alike hK, hD⟩, hS.F ht⟩) hS.2.2 nd_Ref_acts_190
                  · have c_59t := cr_eq c_59
                    rw [if_pos c_59] at hM
                    refine lv_iconst (v := 1) hx hb nd_Ref_acts_175 (by decide) ?_
                    refine lv_goto (tgt := 188) hx hb nd_Ref_acts_176 (by decide) ?_
                    have b_64 : vp_in x3 9 := vp_in_iff.mpr (by omega)
                    refine va_iast hx hb hK hP hD hS 8 0 rfl rfl b_64 nd_Ref_acts_188 (fun H locs hP hD hS => ?_)
                    have hP : va_P (dC, dI) vwCl (cw_Ref cI cZ cJ arf (cr_up rfq_58 8 x3.toNatClampNeg (1 : Int32)) lat ln) H := hP
                    have hD : va_D A (cw_Ref cI cZ cJ arf (cr_up rfq_58 8 x3.toNatClampNeg (1 : Int32)) lat ln) := hD
                    have hR_65 : cr_RRef (cr_up rfq_58 8 x3.toNatClampNeg (1 : Int32)) := ⟨cr_rf_up hR_57.1 (fun e _ => absurd e (by decide)), cr_rf_up hR_57.2.1 (fun e _ => absurd e (by decide)), cr_rg_up hR_57.2.2.1 (fun e => absurd e (by decide)), cr_rg_up hR_57.2.2.2.1 (fun e => absurd e (by decide)), cr_rg_up hR_57.2.2.2.2.1 (fun e => absurd e (by decide)), cr_rh_up hR_57.2.2.2.2.2 (fun e => absurd e (by decide))⟩
                    obtain ⟨rfq_66, hrfq_66⟩ : ∃ z, (cr_up rfq_58 8 x3.toNatClampNeg (1 : Int32)) = z := ⟨_, rfl⟩
                    rw [hrfq_66] at hP hD hR_65
                    try rw [hrfq_66] at hM
                    refine lv_iconst (v := 1) hx hb nd_Ref_acts_189 (by decide) ?_
                    exact W.iret (v := (1 : Int32)) hx hb hr (fun t ht hW => ⟨⟨(1 : Int32), rfq_66, rfl, ⟨by rw [hT, ← hM], by rw [hT, ← hM], hR_65⟩, by rw [ht]; exact hP, va_K.moved hW.alike hK, hD⟩, hS.F ht⟩) hS.2.2 nd_Ref_acts_190
                · have c_55t := cr_eq c_55
                  rw [if_pos c_55] at hM
                  refine lv_bipush (v := -12) hx hb nd_Ref_acts_155 (by decide) ?_
                  exact W.iret (v := (-12 : Int32)) hx hb hr (fun t ht hW => ⟨⟨(-12 : Int32), rf, rfl, ⟨by rw [hT, ← hM], by rw [hT, ← hM], hR_rf⟩, by rw [ht]; exact hP, va_K.moved hW.alike hK, hD⟩, hS.F ht⟩) hS.2.2 nd_Ref_acts_157
              · have c_53t := cr_eq c_53
                rw [if_pos c_53] at hM
                refine lv_bipush (v := -11) hx hb nd_Ref_acts_142 (by decide) ?_
                exact W.iret (v := (-11 : Int32)) hx hb hr (fun t ht hW => ⟨⟨(-11 : Int32), rf, rfl, ⟨by rw [hT, ← hM], by rw [hT, ← hM], hR_rf⟩, by rw [ht]; exact hP, va_K.moved hW.alike hK, hD⟩, hS.F ht⟩) hS.2.2 nd_Ref_acts_144
          · have c_9t := cr_eq c_9
            rw [if_pos c_9] at hM
            refine lv_iconst (v := 0) hx hb nd_Ref_acts_112 (by decide) ?_
            exact W.iret (v := (0 : Int32)) hx hb hr (fun t ht hW => ⟨⟨(0 : Int32), rf, rfl, ⟨by rw [hT, ← hM], by rw [hT, ← hM], hR_rf⟩, by rw [ht]; exact hP, va_K.moved hW.alike hK, hD⟩, hS.F ht⟩) hS.2.2 nd_Ref_acts_113
        · have c_6t := cr_eq c_6
          rw [if_pos c_6] at hM
          refine lv_bipush (v := -3) hx hb nd_Ref_acts_101 (by decide) ?_
          exact W.iret (v := (-3 : Int32)) hx hb hr (fun t ht hW => ⟨⟨(-3 : Int32), rf, rfl, ⟨by rw [hT, ← hM], by rw [hT, ← hM], hR_rf⟩, by rw [ht]; exact hP, va_K.moved hW.alike hK, hD⟩, hS.F ht⟩) hS.2.2 nd_Ref_acts_103
      · have c_4t := cr_eq c_4
        rw [if_pos c_4] at hM
        refine lv_aload_n hx hb nd_Ref_acts_52 rfl (lv_at hl 0 rfl) ?_
        refine va_get (D := (dC, dI)) (ci := 5) (v := .ref (arf 3)) (C := "CeilingRowsModel") (T := nf_Ref) (N := 22) hx hb hts nin_Ref hown hK hP 0 rfl rfl 3 (by decide) (hts _ tw_416) (fun _ h9 => h9) rfl nd_Ref_acts_53 ?_
        refine lv_iload_n hx hb nd_Ref_acts_56 rfl (lv_at hl 1 rfl) ?_
        have b_67 : vp_in x1 11 := vp_in_iff.mpr (by omega)
        refine va_iald hx hb hK hP 3 0 rfl rfl b_67 nd_Ref_acts_57 ?_
        refine lv_iconst (v := 2) hx hb nd_Ref_acts_58 (by decide) ?_
        refine lv_icmp_ne (tgt := 70) hx hb nd_Ref_acts_59 (by decide) (fun c_68 => ?_) (fun c_68 => ?_)
        · have c_68t := cr_ne c_68
          rw [if_neg c_68] at hM
          refine lv_aload_n hx hb nd_Ref_acts_70 rfl (lv_at hl 0 rfl) ?_
          refine va_get (D := (dC, dI)) (ci := 5) (v := .ref (arf 5)) (C := "CeilingRowsModel") (T := nf_Ref) (N := 22) hx hb hts nin_Ref hown hK hP 0 rfl rfl 6 (by decide) (hts _ tw_419) (fun _ h9 => h9) rfl nd_Ref_acts_71 ?_
          refine lv_iload_n hx hb nd_Ref_acts_74 rfl (lv_at hl 1 rfl) ?_
          refine lv_iconst (v := 1) hx hb nd_Ref_acts_75 (by decide) ?_
          have b_69 : vp_in x1 11 := vp_in_iff.mpr (by omega)
          refine va_zast hx hb hK hP hD hS 5 1 rfl rfl b_69 nd_Ref_acts_76 (fun H locs hP hD hS => ?_)
          rw [show vp_nar .boolean (1 : Int32) = (1 : Int32) by decide] at hP hD
          have hP : va_P (dC, dI) vwCl (cw_Ref cI cZ cJ arf (cr_up rf 5 x1.toNatClampNeg (1 : Int32)) lat ln) H := hP
          have hD : va_D A (cw_Ref cI cZ cJ arf (cr_up rf 5 x1.toNatClampNeg (1 : Int32)) lat ln) := hD
          have hR_70 : cr_RRef (cr_up rf 5 x1.toNatClampNeg (1 : Int32)) := ⟨cr_rf_up hR_rf.1 (fun e _ => absurd e (by decide)), cr_rf_up hR_rf.2.1 (fun e _ => absurd e (by decide)), cr_rg_up hR_rf.2.2.1 (fun e => absurd e (by decide)), cr_rg_up hR_rf.2.2.2.1 (fun e => absurd e (by decide)), cr_rg_up hR_rf.2.2.2.2.1 (fun e => absurd e (by decide)), cr_rh_up hR_rf.2.2.2.2.2 (fun e => absurd e (by decide))⟩
          obtain ⟨rfq_71, hrfq_71⟩ : ∃ z, (cr_up rf 5 x1.toNatClampNeg (1 : Int32)) = z := ⟨_, rfl⟩
          rw [hrfq_71] at hP hD hR_70
          try rw [hrfq_71] at hM
          refine lv_aload_n hx hb nd_Ref_acts_77 rfl (lv_at hl 0 rfl) ?_
          refine lv_iload_n hx hb nd_Ref_acts_78 rfl (lv_at hl 1 rfl) ?_
          have hPc := hP
          have hDc := hD
          have hFc := va_free (wc := cw_Ref cI cZ cJ arf rfq_71 lat ln) hD hS hA [0, 1, 2, 3, 4, 5, 6, 7, 8, 9, 10, 11, 12, 13, 14, 15, 16, 17] rfl
          refine va_calli (va_runV (As := [.int x1]) (rest := []) ⟨hx, hb, hml, hown, hts⟩ (ct_Ref_runs l dC dI cI cZ cJ arf H.size rfq_71 lat ln x1 hR_70 (by omega)) (cwV 1 hts (ng_V tw_523 tw_525 tp_23 tw_6 tw_526) rfl rfl rfl (by decide +kernel) ⟨Nat.le_of_ble_eq_true rfl, Nat.le_of_ble_eq_true rfl⟩) ⟨fun a U g mk q => by obtain ⟨q0, q1, qP, qK, qD⟩ := q; exact ⟨q0, q1, qP, va_K.moved (u := U) (U := U.calling g mk a) (Vm.Alike.refl U.vm) qK, qD⟩, va_recv hK hPc (ci := 5) (q0 := 0) rfl rfl, fun U hU hW => ⟨rfl, by rw [hU], by rw [hU]; exact hPc, va_K.moved hW.alike hK, hDc.weaken (fun _ _ _ _ => trivial)⟩⟩ rfl rfl hl.1 rfl (lv_room (Nat.le_of_ble_eq_true rfl)) nd_Ref_acts_79 ⟨Nat.zero_le _, Nat.zero_le _⟩) hS (fun q _ h => hFc q h) hFc (fun r_72 u t H1 locs ht hvm hw hB hz1 hk1 hS => ?_)
          obtain ⟨hP1, hK1, hD1⟩ := hB
          rw [ht] at hP1
          have w_73 := hw
          try rw [← w_73] at hM
          have hP := hP1
          have hD := cr_Dw hD1 hFc
          generalize H1 = H at hP hS ⊢
          refine lv_if_eq (tgt := 89) hx hb nd_Ref_acts_82 (by decide) (fun c_74 => ?_) (fun c_74 => ?_)
          · have c_74t := cr_eq c_74
            rw [if_pos c_74] at hM
            refine lv_iconst (v := 0) hx hb nd_Ref_acts_89 (by decide) ?_
            exact W.iret (v := (0 : Int32)) hx hb hr (fun t ht hW => ⟨⟨(0 : Int32), rfq_71, rfl, ⟨by rw [hT, ← hM], by rw [hT, ← hM], hR_70⟩, by rw [ht]; exact hP, va_K.moved hW.alike hK, hD⟩, hS.F ht⟩) hS.2.2 nd_Ref_acts_90
          · have c_74t := cr_ne c_74
            rw [if_neg c_74] at hM
            refine lv_iconst (v := 1) hx hb nd_Ref_acts_85 (by decide) ?_
            refine lv_goto (tgt := 90) hx hb nd_Ref_acts_86 (by decide) ?_
            exact W.iret (v := (1 : Int32)) hx hb hr (fun t ht hW => ⟨⟨(1 : Int32), rfq_71, rfl, ⟨by rw [hT, ← hM], by rw [hT, ← hM], hR_70⟩, by rw [ht]; exact hP, va_K.moved hW.alike hK, hD⟩, hS.F ht⟩) hS.2.2 nd_Ref_acts_90
        · have c_68t := cr_eq c_68
          rw [if_pos c_68] at hM
          refine lv_aload_n hx hb nd_Ref_acts_62 rfl (lv_at hl 0 rfl) ?_
          refine lv_iload_n hx hb nd_Ref_acts_63 rfl (lv_at hl 1 rfl) ?_
          have hPc := hP
          have hDc := hD
          have hFc := va_free (wc := cw_Ref cI cZ cJ arf rf lat ln) hD hS hA [0, 1, 2, 3, 4, 5, 6, 7, 8, 9, 10, 11, 12, 13, 14, 15, 16, 17] rfl
          refine va_callv (va_runV (As := [.int x1]) (rest := []) ⟨hx, hb, hml, hown, hts⟩ (ct_Ref_ready l dC dI cI cZ cJ arf s.heap.size rf lat ln x1 hR_rf (by omega)) (cwV 1 hts (ng_V tw_519 tw_521 tp_22 tw_6 tw_522) rfl rfl rfl (by decide +kernel) ⟨Nat.le_of_ble_eq_true rfl, Nat.le_of_ble_eq_true rfl⟩) ⟨fun a U g mk q => by obtain ⟨q0, q1, qP, qK, qD⟩ := q; exact ⟨q0, q1, qP, va_K.moved (u := U) (U := U.calling g mk a) (Vm.Alike.refl U.vm) qK, qD⟩, va_recv hK hPc (ci := 5) (q0 := 0) rfl rfl, fun U hU hW => ⟨rfl, by rw [hU], by rw [hU]; exact hPc, va_K.moved hW.alike hK, hDc.weaken (fun _ _ _ _ => trivial)⟩⟩ rfl rfl hl.1 rfl (lv_room (Nat.le_of_ble_eq_true rfl)) nd_Ref_acts_64 ⟨Nat.zero_le _, Nat.zero_le _⟩) hS (fun q _ h => hFc q h) hFc (fun u t H1 locs ht hvm hw hB hz1 hk1 hS => ?_)
          obtain ⟨hP1, hK1, hD1⟩ := hB
          rw [ht] at hP1
          obtain ⟨rfq_76, rfl⟩ : ∃ z, z = u := ⟨_, rfl⟩
          obtain ⟨w_77, hR_78⟩ := hw
          try rw [← w_77] at hM
          have hP := hP1
          have hD := cr_Dw hD1 hFc
          generalize H1 = H at hP hS ⊢
          refine lv_goto (tgt := 77) hx hb nd_Ref_acts_67 (by decide) ?_
          refine lv_aload_n hx hb nd_Ref_acts_77 rfl (lv_at hl 0 rfl) ?_
          refine lv_iload_n hx hb nd_Ref_acts_78 rfl (lv_at hl 1 rfl) ?_
          have hPc := hP
          have hDc := hD
          have hFc := va_free (wc := cw_Ref cI cZ cJ arf rfq_76 lat ln) hD hS hA [0, 1, 2, 3, 4, 5, 6, 7, 8, 9, 10, 11, 12, 13, 14, 15, 16, 17] rfl
          refine va_calli (va_runV (As := [.int x1]) (rest := []) ⟨hx, hb, hml, hown, hts⟩ (ct_Ref_runs l dC dI cI cZ cJ arf H.size rfq_76 lat ln x1 hR_78 (by omega)) (cwV 1 hts (ng_V tw_523 tw_525 tp_23 tw_6 tw_526) rfl rfl rfl (by decide +kernel) ⟨Nat.le_of_ble_eq_true rfl, Nat.le_of_ble_eq_true rfl⟩) ⟨fun a U g mk q => by obtain ⟨q0, q1, qP, qK, qD⟩ := q; exact ⟨q0, q1, qP, va_K.moved (u := U) (U := U.calling g mk a) (Vm.Alike.refl U.vm) qK, qD⟩, va_recv hK hPc (ci := 5) (q0 := 0) rfl rfl, fun U hU hW => ⟨rfl, by rw [hU], by rw [hU]; exact hPc, va_K.moved hW.alike hK, hDc.weaken (fun _ _ _ _ => trivial)⟩⟩ rfl rfl hl.1 rfl (lv_room (Nat.le_of_ble_eq_true rfl)) nd_Ref_acts_79 ⟨Nat.zero_le _, Nat.zero_le _⟩) hS (fun q _ h => hFc q h) hFc (fun r_79 u t H1 locs ht hvm hw hB hz1 hk1 hS => ?_)
          obtain ⟨hP1, hK1, hD1⟩ := hB
          rw [ht] at hP1
          have w_80 := hw
          try rw [← w_80] at hM
          have hP := hP1
          have hD := cr_Dw hD1 hFc
          generalize H1 = H at hP hS ⊢
          refine lv_if_eq (tgt := 89) hx hb nd_Ref_acts_82 (by decide) (fun c_81 => ?_) (fun c_81 => ?_)
          · have c_81t := cr_eq c_81
            rw [if_pos c_81] at hM
            refine lv_iconst (v := 0) hx hb nd_Ref_acts_89 (by decide) ?_
            exact W.iret (v := (0 : Int32)) hx hb hr (fun t ht hW => ⟨⟨(0 : Int32), rfq_76, rfl, ⟨by rw [hT, ← hM], by rw [hT, ← hM], hR_78⟩, by rw [ht]; exact hP, va_K.moved hW.alike hK, hD⟩, hS.F ht⟩) hS.2.2 nd_Ref_acts_90
          · have c_81t := cr_ne c_81
            rw [if_neg c_81] at hM
            refine lv_iconst (v := 1) hx hb nd_Ref_acts_85 (by decide) ?_
            refine lv_goto (tgt := 90) hx hb nd_Ref_acts_86 (by decide) ?_
            exact W.iret (v := (1 : Int32)) hx hb hr (fun t ht hW => ⟨⟨(1 : Int32), rfq_76, rfl, ⟨by rw [hT, ← hM], by rw [hT, ← hM], hR_78⟩, by rw [ht]; exact hP, va_K.moved hW.alike hK, hD⟩, hS.F ht⟩) hS.2.2 nd_Ref_acts_90
    · have c_3t := cr_eq c_3
      rw [if_pos c_3] at hM
      refine lv_bipush (v := -3) hx hb nd_Ref_acts_44 (by decide) ?_
      exact W.iret (v := (-3 : Int32)) hx hb hr (fun t ht hW => ⟨⟨(-3 : Int32), rf, rfl, ⟨by rw [hT, ← hM], by rw [hT, ← hM], hR_rf⟩, by rw [ht]; exact hP, va_K.moved hW.alike hK, hD⟩, hS.F ht⟩) hS.2.2 nd_Ref_acts_46
  · have c_1t := cr_eq c_1
    rw [if_pos c_1] at hM
    refine lv_aload_n hx hb nd_Ref_acts_4 rfl (lv_at hl 0 rfl) ?_
    refine va_get (D := (dC, dI)) (ci := 5) (v := .ref (arf 3)) (C := "CeilingRowsModel") (T := nf_Ref) (N := 22) hx hb hts nin_Ref hown hK hP 0 rfl rfl 3 (by decide) (hts _ tw_416) (fun _ h9 => h9) rfl nd_Ref_acts_5 ?_
    refine lv_iload_n hx hb nd_Ref_acts_8 rfl (lv_at hl 1 rfl) ?_
    have b_82 : vp_in x1 11 := vp_in_iff.mpr (by omega)
    refine va_iald hx hb hK hP 3 0 rfl rfl b_82 nd_Ref_acts_9 ?_
    refine lv_if_eq (tgt := 16) hx hb nd_Ref_acts_10 (by decide) (fun c_83 => ?_) (fun c_83 => ?_)
    · have c_83t := cr_eq c_83
      rw [if_pos c_83] at hM
      refine lv_aload_n hx hb nd_Ref_acts_16 rfl (lv_at hl 0 rfl) ?_
      refine lv_iload_n hx hb nd_Ref_acts_17 rfl (lv_at hl 1 rfl) ?_
      have hPc := hP
      have hDc := hD
      have hFc := va_free (wc := cw_Ref cI cZ cJ arf rf lat ln) hD hS hA [0, 1, 2, 3, 4, 5, 6, 7, 8, 9, 10, 11, 12, 13, 14, 15, 16, 17] rfl
      refine va_callv (va_runV (As := [.int x1]) (rest := []) ⟨hx, hb, hml, hown, hts⟩ (ct_Ref_ready l dC dI cI cZ cJ arf s.heap.size rf lat ln x1 hR_rf (by omega)) (cwV 1 hts (ng_V tw_519 tw_521 tp_22 tw_6 tw_522) rfl rfl rfl (by decide +kernel) ⟨Nat.le_of_ble_eq_true rfl, Nat.le_of_ble_eq_true rfl⟩) ⟨fun a U g mk q => by obtain ⟨q0, q1, qP, qK, qD⟩ := q; exact ⟨q0, q1, qP, va_K.moved (u := U) (U := U.calling g mk a) (Vm.Alike.refl U.vm) qK, qD⟩, va_recv hK hPc (ci := 5) (q0 := 0) rfl rfl, fun U hU hW => ⟨rfl, by rw [hU], by rw [hU]; exact hPc, va_K.moved hW.alike hK, hDc.weaken (fun _ _ _ _ => trivial)⟩⟩ rfl rfl hl.1 rfl (lv_room (Nat.le_of_ble_eq_true rfl)) nd_Ref_acts_18 ⟨Nat.zero_le _, Nat.zero_le _⟩) hS (fun q _ h => hFc q h) hFc (fun u t H1 locs ht hvm hw hB hz1 hk1 hS => ?_)
      obtain ⟨hP1, hK1, hD1⟩ := hB
      rw [ht] at hP1
      obtain ⟨rfq_85, rfl⟩ : ∃ z, z = u := ⟨_, rfl⟩
      obtain ⟨w_86, hR_87⟩ := hw
      try rw [← w_86] at hM
      have hP := hP1
      have hD := cr_Dw hD1 hFc
      generalize H1 = H at hP hS ⊢
      refine lv_aload_n hx hb nd_Ref_acts_21 rfl (lv_at hl 0 rfl) ?_
      refine lv_iload_n hx hb nd_Ref_acts_22 rfl (lv_at hl 1 rfl) ?_
      have hPc := hP
      have hDc := hD
      have hFc := va_free (wc := cw_Ref cI cZ cJ arf rfq_85 lat ln) hD hS hA [0, 1, 2, 3, 4, 5, 6, 7, 8, 9, 10, 11, 12, 13, 14, 15, 16, 17] rfl
      refine va_calli (va_runV (As := [.int x1]) (rest := []) ⟨hx, hb, hml, hown, hts⟩ (ct_Ref_runs l dC dI cI cZ cJ arf H.size rfq_85 lat ln x1 hR_87 (by omega)) (cwV 1 hts (ng_V tw_523 tw_525 tp_23 tw_6 tw_526) rfl rfl rfl (by decide +kernel) ⟨Nat.le_of_ble_eq_true rfl, Nat.le_of_ble_eq_true rfl⟩) ⟨fun a U g mk q => by obtain ⟨q0, q1, qP, qK, qD⟩ := q; exact ⟨q0, q1, qP, va_K.moved (u := U) (U := U.calling g mk a) (Vm.Alike.refl U.vm) qK, qD⟩, va_recv hK hPc (ci := 5) (q0 := 0) rfl rfl, fun U hU hW => ⟨rfl, by rw [hU], by rw [hU]; exact hPc, va_K.moved hW.alike hK, hDc.weaken (fun _ _ _ _ => trivial)⟩⟩ rfl rfl hl.1 rfl (lv_room (Nat.le_of_ble_eq_true rfl)) nd_Ref_acts_23 ⟨Nat.zero_le _, Nat.zero_le _⟩) hS (fun q _ h => hFc q h) hFc (fun r_88 u t H1 locs ht hvm hw hB hz1 hk1 hS => ?_)
      obtain ⟨hP1, hK1, hD1⟩ := hB
      rw [ht] at hP1
      have w_89 := hw
      try rw [← w_89] at hM
      have hP := hP1
      have hD := cr_Dw hD1 hFc
      generalize H1 = H at hP hS ⊢
      refine lv_if_eq (tgt := 33) hx hb nd_Ref_acts_26 (by decide) (fun c_90 => ?_) (fun c_90 => ?_)
      · have c_90t := cr_eq c_90
        rw [if_pos c_90] at hM
        refine lv_iconst (v := 0) hx hb nd_Ref_acts_33 (by decide) ?_
        exact W.iret (v := (0 : Int32)) hx hb hr (fun t ht hW => ⟨⟨(0 : Int32), rfq_85, rfl, ⟨by rw [hT, ← hM], by rw [hT, ← hM], hR_87⟩, by rw [ht]; exact hP, va_K.moved hW.alike hK, hD⟩, hS.F ht⟩) hS.2.2 nd_Ref_acts_34
      · have c_90t := cr_ne c_90
        rw [if_neg c_90] at hM
        refine lv_iconst (v := 1) hx hb nd_Ref_acts_29 (by decide) ?_
        refine lv_goto (tgt := 34) hx hb nd_Ref_acts_30 (by decide) ?_
        exact W.iret (v := (1 : Int32)) hx hb hr (fun t ht hW => ⟨⟨(1 : Int32), rfq_85, rfl, ⟨by rw [hT, ← hM], by rw [hT, ← hM], hR_87⟩, by rw [ht]; exact hP, va_K.moved hW.alike hK, hD⟩, hS.F ht⟩) hS.2.2 nd_Ref_acts_34
    · have c_83t := cr_ne c_83
      rw [if_neg c_83] at hM
      refine lv_bipush (v := -3) hx hb nd_Ref_acts_13 (by decide) ?_
      exact W.iret (v := (-3 : Int32)) hx hb hr (fun t ht hW => ⟨⟨(-3 : Int32), rf, rfl, ⟨by rw [hT, ← hM], by rw [hT, ← hM], hR_rf⟩, by rw [ht]; exact hP, va_K.moved hW.alike hK, hD⟩, hS.F ht⟩) hS.2.2 nd_Ref_acts_15
