-- ===== end of PART A; then your names; then what follows =====
/-! THE CLAIM OUT OF ONE WALK OF THE LAW'S BODY. Your part is whole_start (and what it stands on); all else here is the same for every law, but numbers. -/
def R_law : String := "CeilingRowsLaw"
def lw_P (b : Addr) (xs : List Int32) (args : Array Value) (s : State) : Prop := args = #[.ref b] ∧ s.IntsAt b xs ∧ xs.length ≤ 3072 ∧ (Jvm.Cond.and given_1 narrow_1).before args s = true
def lw_Q (_ : Array Value) (s : State) (o : Outcome) (t : State) : Prop := o = .returned (some (.int 1)) ∧ Framed s o t [] 600000 7302250
def lw_Z (below : List Frame) (a : Array Value) (s : State) : State → Prop := fun t => ∃ o, t.status = .running ∧ Ended t below o ∧ lw_Q a s o t
/-- the law's own end, with 1 on the stack, nothing written that was there before, its room as the claim has it -/
theorem lw_ret {p : Program} {l : Launch} {e : Env} {s : State} {m : MethodId} {below : List Frame} {meth : Method} {c : Code} {b : Nat} (hx : p.tables.exec = Jvm.exec) (hb : c.code = code) (hr : meth.sig.returnType = ret) (hlocks : meth.locks = false) {pc : Nat} {H : Heap} {ls : Array Slot} (hdg : decode code pc = .ok (.ireturn, 1)) : W p l e room_1 s m #[Value.ref b] below meth c H [] 600000 7302250 (lw_Z below #[Value.ref b] s) (F0 m pc ls [.int 1]) := by
  intro T hT X
  obtain ⟨fs, hret, hrun, hended, hW, hframe⟩ := X.leave (v := some (.int 1)) (hlocks := hlocks) (fun h => by rw [hr] at h; cases h)
  have hmeth' : T.vm.method? m = some meth := X.method'
  refine ⟨T.setFrames fs, ?_, .returned (some (.int 1)), hrun, hended, rfl, ⟨_, rfl⟩, hW, hframe⟩
  jvm_step X.here [X.here.top, hx, hb, hdg, hmeth', hr, ret, narrow_b1]
  (try refine ⟨rfl, ?_⟩); (try refine ⟨rfl, ?_⟩)
  first | (intro acts; rw [hret _ acts rfl rfl rfl]) | rw [hret _ _ rfl rfl rfl]
  exact Steps.refl _
/-- what holds at the law's entry: the machine, the code, the tables' words (any of lw_tbl by 'hts w (by decide +kernel)'), the script of L ints xs at the cell b, what the Statement gives of the start (any of its parts by flat_of_before) -/
def lw_At (p : Program) (s : State) (m : MethodId) (meth : Method) (c : Code) (b L : Nat) (xs : Nat → Int32) : Prop :=
  p.tables.exec = Jvm.exec ∧ c.code = code ∧ meth.sig.returnType = ret ∧ c.maxLocals = 4 ∧ s.vm.findClass R_law = some m.cls ∧ (∀ w ∈ lw_tbl, w.before #[Value.ref b] s = true) ∧ va_X b L xs s s.heap ∧ b < s.heap.size ∧ meth.locks = false ∧ (Jvm.Cond.and given_1 narrow_1).before #[Value.ref b] s = true
theorem nd_Law_law_0 : decode code 0 = .ok (.new 7, 3) := by decide +kernel
theorem nd_Law_law_3 : decode code 3 = .ok (.dup, 1) := by decide +kernel
theorem nd_Law_law_4 : decode code 4 = .ok (.invokespecial 9, 3) := by decide +kernel
theorem nd_Law_law_7 : decode code 7 = .ok (.astore_n 1, 1) := by decide +kernel
theorem nd_Law_law_8 : decode code 8 = .ok (.new 10, 3) := by decide +kernel
theorem nd_Law_law_11 : decode code 11 = .ok (.dup, 1) := by decide +kernel
theorem nd_Law_law_12 : decode code 12 = .ok (.invokespecial 12, 3) := by decide +kernel
theorem nd_Law_law_15 : decode code 15 = .ok (.astore_n 2, 1) := by decide +kernel
theorem nd_Law_law_16 : decode code 16 = .ok (.iconst 0, 1) := by decide +kernel
theorem nd_Law_law_17 : decode code 17 = .ok (.istore_n 3, 1) := by decide +kernel
theorem nd_Law_law_18 : decode code 18 = .ok (.iload_n 3, 1) := by decide +kernel
theorem nd_Law_law_19 : decode code 19 = .ok (.aload_n 0, 1) := by decide +kernel
theorem nd_Law_law_20 : decode code 20 = .ok (.arraylength, 1) := by decide +kernel
theorem nd_Law_law_21 : decode code 21 = .ok (.bipush 6, 2) := by decide +kernel
theorem nd_Law_law_23 : decode code 23 = .ok (.isub, 1) := by decide +kernel
theorem nd_Law_law_24 : decode code 24 = .ok (.if_icmp .gt (505), 3) := by decide +kernel
theorem nd_Law_law_27 : decode code 27 = .ok (.aload_n 0, 1) := by decide +kernel
theorem nd_Law_law_28 : decode code 28 = .ok (.iload_n 3, 1) := by decide +kernel
theorem nd_Law_law_29 : decode code 29 = .ok (.iaload, 1) := by decide +kernel
theorem nd_Law_law_30 : decode code 30 = .ok (.bipush 15, 2) := by decide +kernel
theorem nd_Law_law_32 : decode code 32 = .ok (.iand, 1) := by decide +kernel
theorem nd_Law_law_33 : decode code 33 = .ok (.tableswitch (490) 0 11 #[(63), (96), (109), (182), (205), (288), (311), (334), (358), (391), (404), (437)], 63) := by decide +kernel
theorem nd_Law_law_96 : decode code 96 = .ok (.aload_n 1, 1) := by decide +kernel
theorem nd_Law_law_97 : decode code 97 = .ok (.aload_n 0, 1) := by decide +kernel
theorem nd_Law_law_98 : decode code 98 = .ok (.iload_n 3, 1) := by decide +kernel
theorem nd_Law_law_99 : decode code 99 = .ok (.iconst 1, 1) := by decide +kernel
theorem nd_Law_law_100 : decode code 100 = .ok (.iadd, 1) := by decide +kernel
theorem nd_Law_law_101 : decode code 101 = .ok (.iaload, 1) := by decide +kernel
theorem nd_Law_law_102 : decode code 102 = .ok (.aload_n 0, 1) := by decide +kernel
theorem nd_Law_law_103 : decode code 103 = .ok (.iload_n 3, 1) := by decide +kernel
theorem nd_Law_law_104 : decode code 104 = .ok (.iconst 2, 1) := by decide +kernel
theorem nd_Law_law_105 : decode code 105 = .ok (.iadd, 1) := by decide +kernel
theorem nd_Law_law_106 : decode code 106 = .ok (.iaload, 1) := by decide +kernel
theorem nd_Law_law_107 : decode code 107 = .ok (.invokevirtual 13, 3) := by decide +kernel
theorem nd_Law_law_110 : decode code 110 = .ok (.aload_n 2, 1) := by decide +kernel
theorem nd_Law_law_111 : decode code 111 = .ok (.aload_n 0, 1) := by decide +kernel
theorem nd_Law_law_112 : decode code 112 = .ok (.iload_n 3, 1) := by decide +kernel
theorem nd_Law_law_113 : decode code 113 = .ok (.iconst 1, 1) := by decide +kernel
theorem nd_Law_law_114 : decode code 114 = .ok (.iadd, 1) := by decide +kernel
theorem nd_Law_law_115 : decode code 115 = .ok (.iaload, 1) := by decide +kernel
theorem nd_Law_law_116 : decode code 116 = .ok (.aload_n 0, 1) := by decide +kernel
theorem nd_Law_law_117 : decode code 117 = .ok (.iload_n 3, 1) := by decide +kernel
theorem nd_Law_law_118 : decode code 118 = .ok (.iconst 2, 1) := by decide +kernel
theorem nd_Law_law_119 : decode code 119 = .ok (.iadd, 1) := by decide +kernel
theorem nd_Law_law_120 : decode code 120 = .ok (.iaload, 1) := by decide +kernel
theorem nd_Law_law_121 : decode code 121 = .ok (.invokevirtual 17, 3) := by decide +kernel
theorem nd_Law_law_124 : decode code 124 = .ok (.if_icmp .eq (399), 3) := by decide +kernel
theorem nd_Law_law_127 : decode code 127 = .ok (.iconst 0, 1) := by decide +kernel
theorem nd_Law_law_128 : decode code 128 = .ok (.ireturn, 1) := by decide +kernel
theorem nd_Law_law_129 : decode code 129 = .ok (.aload_n 1, 1) := by decide +kernel
theorem nd_Law_law_130 : decode code 130 = .ok (.invokevirtual 18, 3) := by decide +kernel
theorem nd_Law_law_133 : decode code 133 = .ok (.aload_n 2, 1) := by decide +kernel
theorem nd_Law_law_134 : decode code 134 = .ok (.invokevirtual 22, 3) := by decide +kernel
theorem nd_Law_law_137 : decode code 137 = .ok (.if_icmp .eq (386), 3) := by decide +kernel
theorem nd_Law_law_140 : decode code 140 = .ok (.iconst 0, 1) := by decide +kernel
theorem nd_Law_law_141 : decode code 141 = .ok (.ireturn, 1) := by decide +kernel
theorem nd_Law_law_142 : decode code 142 = .ok (.aload_n 1, 1) := by decide +kernel
theorem nd_Law_law_143 : decode code 143 = .ok (.aload_n 0, 1) := by decide +kernel
theorem nd_Law_law_144 : decode code 144 = .ok (.iload_n 3, 1) := by decide +kernel
theorem nd_Law_law_145 : decode code 145 = .ok (.iconst 1, 1) := by decide +kernel
theorem nd_Law_law_146 : decode code 146 = .ok (.iadd, 1) := by decide +kernel
theorem nd_Law_law_147 : decode code 147 = .ok (.iaload, 1) := by decide +kernel
theorem nd_Law_law_148 : decode code 148 = .ok (.aload_n 0, 1) := by decide +kernel
theorem nd_Law_law_149 : decode code 149 = .ok (.iload_n 3, 1) := by decide +kernel
theorem nd_Law_law_150 : decode code 150 = .ok (.iconst 2, 1) := by decide +kernel
theorem nd_Law_law_151 : decode code 151 = .ok (.iadd, 1) := by decide +kernel
theorem nd_Law_law_152 : decode code 152 = .ok (.iaload, 1) := by decide +kernel
theorem nd_Law_law_153 : decode code 153 = .ok (.aload_n 0, 1) := by decide +kernel
theorem nd_Law_law_154 : decode code 154 = .ok (.iload_n 3, 1) := by decide +kernel
theorem nd_Law_law_155 : decode code 155 = .ok (.iconst 3, 1) := by decide +kernel
theorem nd_Law_law_156 : decode code 156 = .ok (.iadd, 1) := by decide +kernel
theorem nd_Law_law_157 : decode code 157 = .ok (.iaload, 1) := by decide +kernel
theorem nd_Law_law_158 : decode code 158 = .ok (.i2l, 1) := by decide +kernel
theorem nd_Law_law_159 : decode code 159 = .ok (.bipush 32, 2) := by decide +kernel
theorem nd_Law_law_161 : decode code 161 = .ok (.lshl, 1) := by decide +kernel
theorem nd_Law_law_162 : decode code 162 = .ok (.aload_n 0, 1) := by decide +kernel
theorem nd_Law_law_163 : decode code 163 = .ok (.iload_n 3, 1) := by decide +kernel
theorem nd_Law_law_164 : decode code 164 = .ok (.iconst 4, 1) := by decide +kernel
theorem nd_Law_law_165 : decode code 165 = .ok (.iadd, 1) := by decide +kernel
theorem nd_Law_law_166 : decode code 166 = .ok (.iaload, 1) := by decide +kernel
theorem nd_Law_law_167 : decode code 167 = .ok (.i2l, 1) := by decide +kernel
theorem nd_Law_law_168 : decode code 168 = .ok (.ldc2_w 23, 3) := by decide +kernel
theorem nd_Law_law_171 : decode code 171 = .ok (.land, 1) := by decide +kernel
theorem nd_Law_law_172 : decode code 172 = .ok (.lor, 1) := by decide +kernel
theorem nd_Law_law_173 : decode code 173 = .ok (.invokevirtual 25, 3) := by decide +kernel
theorem nd_Law_law_176 : decode code 176 = .ok (.aload_n 2, 1) := by decide +kernel
theorem nd_Law_law_177 : decode code 177 = .ok (.aload_n 0, 1) := by decide +kernel
theorem nd_Law_law_178 : decode code 178 = .ok (.iload_n 3, 1) := by decide +kernel
theorem nd_Law_law_179 : decode code 179 = .ok (.iconst 1, 1) := by decide +kernel
theorem nd_Law_law_180 : decode code 180 = .ok (.iadd, 1) := by decide +kernel
theorem nd_Law_law_181 : decode code 181 = .ok (.iaload, 1) := by decide +kernel
theorem nd_Law_law_182 : decode code 182 = .ok (.aload_n 0, 1) := by decide +kernel
theorem nd_Law_law_183 : decode code 183 = .ok (.iload_n 3, 1) := by decide +kernel
theorem nd_Law_law_184 : decode code 184 = .ok (.iconst 2, 1) := by decide +kernel
theorem nd_Law_law_185 : decode code 185 = .ok (.iadd, 1) := by decide +kernel
theorem nd_Law_law_186 : decode code 186 = .ok (.iaload, 1) := by decide +kernel
theorem nd_Law_law_187 : decode code 187 = .ok (.aload_n 0, 1) := by decide +kernel
theorem nd_Law_law_188 : decode code 188 = .ok (.iload_n 3, 1) := by decide +kernel
theorem nd_Law_law_189 : decode code 189 = .ok (.iconst 3, 1) := by decide +kernel
theorem nd_Law_law_190 : decode code 190 = .ok (.iadd, 1) := by decide +kernel
theorem nd_Law_law_191 : decode code 191 = .ok (.iaload, 1) := by decide +kernel
theorem nd_Law_law_192 : decode code 192 = .ok (.i2l, 1) := by decide +kernel
theorem nd_Law_law_193 : decode code 193 = .ok (.bipush 32, 2) := by decide +kernel
theorem nd_Law_law_195 : decode code 195 = .ok (.lshl, 1) := by decide +kernel
theorem nd_Law_law_196 : decode code 196 = .ok (.aload_n 0, 1) := by decide +kernel
theorem nd_Law_law_197 : decode code 197 = .ok (.iload_n 3, 1) := by decide +kernel
theorem nd_Law_law_198 : decode code 198 = .ok (.iconst 4, 1) := by decide +kernel
theorem nd_Law_law_199 : decode code 199 = .ok (.iadd, 1) := by decide +kernel
theorem nd_Law_law_200 : decode code 200 = .ok (.iaload, 1) := by decide +kernel
theorem nd_Law_law_201 : decode code 201 = .ok (.i2l, 1) := by decide +kernel
theorem nd_Law_law_202 : decode code 202 = .ok (.ldc2_w 23, 3) := by decide +kernel
theorem nd_Law_law_205 : decode code 205 = .ok (.land, 1) := by decide +kernel
theorem nd_Law_law_206 : decode code 206 = .ok (.lor, 1) := by decide +kernel
theorem nd_Law_law_207 : decode code 207 = .ok (.invokevirtual 29, 3) := by decide +kernel
theorem nd_Law_law_210 : decode code 210 = .ok (.if_icmp .eq (313), 3) := by decide +kernel
theorem nd_Law_law_213 : decode code 213 = .ok (.iconst 0, 1) := by decide +kernel
theorem nd_Law_law_214 : decode code 214 = .ok (.ireturn, 1) := by decide +kernel
theorem nd_Law_law_215 : decode code 215 = .ok (.aload_n 1, 1) := by decide +kernel
theorem nd_Law_law_216 : decode code 216 = .ok (.aload_n 0, 1) := by decide +kernel
theorem nd_Law_law_217 : decode code 217 = .ok (.iload_n 3, 1) := by decide +kernel
theorem nd_Law_law_218 : decode code 218 = .ok (.iconst 1, 1) := by decide +kernel
theorem nd_Law_law_219 : decode code 219 = .ok (.iadd, 1) := by decide +kernel
theorem nd_Law_law_220 : decode code 220 = .ok (.iaload, 1) := by decide +kernel
theorem nd_Law_law_221 : decode code 221 = .ok (.invokevirtual 30, 3) := by decide +kernel
theorem nd_Law_law_224 : decode code 224 = .ok (.aload_n 2, 1) := by decide +kernel
theorem nd_Law_law_225 : decode code 225 = .ok (.aload_n 0, 1) := by decide +kernel
theorem nd_Law_law_226 : decode code 226 = .ok (.iload_n 3, 1) := by decide +kernel
theorem nd_Law_law_227 : decode code 227 = .ok (.iconst 1, 1) := by decide +kernel
theorem nd_Law_law_228 : decode code 228 = .ok (.iadd, 1) := by decide +kernel
theorem nd_Law_law_229 : decode code 229 = .ok (.iaload, 1) := by decide +kernel
theorem nd_Law_law_230 : decode code 230 = .ok (.invokevirtual 34, 3) := by decide +kernel
theorem nd_Law_law_233 : decode code 233 = .ok (.if_icmp .eq (290), 3) := by decide +kernel
theorem nd_Law_law_236 : decode code 236 = .ok (.iconst 0, 1) := by decide +kernel
theorem nd_Law_law_237 : decode code 237 = .ok (.ireturn, 1) := by decide +kernel
theorem nd_Law_law_238 : decode code 238 = .ok (.aload_n 1, 1) := by decide +kernel
theorem nd_Law_law_239 : decode code 239 = .ok (.aload_n 0, 1) := by decide +kernel
theorem nd_Law_law_240 : decode code 240 = .ok (.iload_n 3, 1) := by decide +kernel
theorem nd_Law_law_241 : decode code 241 = .ok (.iconst 1, 1) := by decide +kernel
theorem nd_Law_law_242 : decode code 242 = .ok (.iadd, 1) := by decide +kernel
theorem nd_Law_law_243 : decode code 243 = .ok (.iaload, 1) := by decide +kernel
theorem nd_Law_law_244 : decode code 244 = .ok (.aload_n 0, 1) := by decide +kernel
theorem nd_Law_law_245 : decode code 245 = .ok (.iload_n 3, 1) := by decide +kernel
theorem nd_Law_law_246 : decode code 246 = .ok (.iconst 2, 1) := by decide +kernel
theorem nd_Law_law_247 : decode code 247 = .ok (.iadd, 1) := by decide +kernel
theorem nd_Law_law_248 : decode code 248 = .ok (.iaload, 1) := by decide +kernel
theorem nd_Law_law_249 : decode code 249 = .ok (.aload_n 0, 1) := by decide +kernel
theorem nd_Law_law_250 : decode code 250 = .ok (.iload_n 3, 1) := by decide +kernel
theorem nd_Law_law_251 : decode code 251 = .ok (.iconst 3, 1) := by decide +kernel
theorem nd_Law_law_252 : decode code 252 = .ok (.iadd, 1) := by decide +kernel
theorem nd_Law_law_253 : decode code 253 = .ok (.iaload, 1) := by decide +kernel
theorem nd_Law_law_254 : decode code 254 = .ok (.aload_n 0, 1) := by decide +kernel
theorem nd_Law_law_255 : decode code 255 = .ok (.iload_n 3, 1) := by decide +kernel
theorem nd_Law_law_256 : decode code 256 = .ok (.iconst 4, 1) := by decide +kernel
theorem nd_Law_law_257 : decode code 257 = .ok (.iadd, 1) := by decide +kernel
theorem nd_Law_law_258 : decode code 258 = .ok (.iaload, 1) := by decide +kernel
theorem nd_Law_law_259 : decode code 259 = .ok (.i2l, 1) := by decide +kernel
theorem nd_Law_law_260 : decode code 260 = .ok (.bipush 32, 2) := by decide +kernel
theorem nd_Law_law_262 : decode code 262 = .ok (.lshl, 1) := by decide +kernel
theorem nd_Law_law_263 : decode code 263 = .ok (.aload_n 0, 1) := by decide +kernel
theorem nd_Law_law_264 : decode code 264 = .ok (.iload_n 3, 1) := by decide +kernel
theorem nd_Law_law_265 : decode code 265 = .ok (.iconst 5, 1) := by decide +kernel
theorem nd_Law_law_266 : decode code 266 = .ok (.iadd, 1) := by decide +kernel
theorem nd_Law_law_267 : decode code 267 = .ok (.iaload, 1) := by decide +kernel
theorem nd_Law_law_268 : decode code 268 = .ok (.i2l, 1) := by decide +kernel
theorem nd_Law_law_269 : decode code 269 = .ok (.ldc2_w 23, 3) := by decide +kernel
theorem nd_Law_law_272 : decode code 272 = .ok (.land, 1) := by decide +kernel
theorem nd_Law_law_273 : decode code 273 = .ok (.lor, 1) := by decide +kernel
theorem nd_Law_law_274 : decode code 274 = .ok (.invokevirtual 35, 3) := by decide +kernel
theorem nd_Law_law_277 : decode code 277 = .ok (.aload_n 2, 1) := by decide +kernel
theorem nd_Law_law_278 : decode code 278 = .ok (.aload_n 0, 1) := by decide +kernel
theorem nd_Law_law_279 : decode code 279 = .ok (.iload_n 3, 1) := by decide +kernel
theorem nd_Law_law_280 : decode code 280 = .ok (.iconst 1, 1) := by decide +kernel
theorem nd_Law_law_281 : decode code 281 = .ok (.iadd, 1) := by decide +kernel
theorem nd_Law_law_282 : decode code 282 = .ok (.iaload, 1) := by decide +kernel
theorem nd_Law_law_283 : decode code 283 = .ok (.aload_n 0, 1) := by decide +kernel
theorem nd_Law_law_284 : decode code 284 = .ok (.iload_n 3, 1) := by decide +kernel
theorem nd_Law_law_285 : decode code 285 = .ok (.iconst 2, 1) := by decide +kernel
theorem nd_Law_law_286 : decode code 286 = .ok (.iadd, 1) := by decide +kernel
theorem nd_Law_law_287 : decode code 287 = .ok (.iaload, 1) := by decide +kernel
theorem nd_Law_law_288 : decode code 288 = .ok (.aload_n 0, 1) := by decide +kernel
theorem nd_Law_law_289 : decode code 289 = .ok (.iload_n 3, 1) := by decide +kernel
theorem nd_Law_law_290 : decode code 290 = .ok (.iconst 3, 1) := by decide +kernel
theorem nd_Law_law_291 : decode code 291 = .ok (.iadd, 1) := by decide +kernel
theorem nd_Law_law_292 : decode code 292 = .ok (.iaload, 1) := by decide +kernel
theorem nd_Law_law_293 : decode code 293 = .ok (.aload_n 0, 1) := by decide +kernel
theorem nd_Law_law_294 : decode code 294 = .ok (.iload_n 3, 1) := by decide +kernel
theorem nd_Law_law_295 : decode code 295 = .ok (.iconst 4, 1) := by decide +kernel
theorem nd_Law_law_296 : decode code 296 = .ok (.iadd, 1) := by decide +kernel
theorem nd_Law_law_297 : decode code 297 = .ok (.iaload, 1) := by decide +kernel
theorem nd_Law_law_298 : decode code 298 = .ok (.i2l, 1) := by decide +kernel
theorem nd_Law_law_299 : decode code 299 = .ok (.bipush 32, 2) := by decide +kernel
theorem nd_Law_law_301 : decode code 301 = .ok (.lshl, 1) := by decide +kernel
theorem nd_Law_law_302 : decode code 302 = .ok (.aload_n 0, 1) := by decide +kernel
theorem nd_Law_law_303 : decode code 303 = .ok (.iload_n 3, 1) := by decide +kernel
theorem nd_Law_law_304 : decode code 304 = .ok (.iconst 5, 1) := by decide +kernel
theorem nd_Law_law_305 : decode code 305 = .ok (.iadd, 1) := by decide +kernel
theorem nd_Law_law_306 : decode code 306 = .ok (.iaload, 1) := by decide +kernel
theorem nd_Law_law_307 : decode code 307 = .ok (.i2l, 1) := by decide +kernel
theorem nd_Law_law_308 : decode code 308 = .ok (.ldc2_w 23, 3) := by decide +kernel
theorem nd_Law_law_311 : decode code 311 = .ok (.land, 1) := by decide +kernel
theorem nd_Law_law_312 : decode code 312 = .ok (.lor, 1) := by decide +kernel
theorem nd_Law_law_313 : decode code 313 = .ok (.invokevirtual 39, 3) := by decide +kernel
theorem nd_Law_law_316 : decode code 316 = .ok (.if_icmp .eq (207), 3) := by decide +kernel
theorem nd_Law_law_319 : decode code 319 = .ok (.iconst 0, 1) := by decide +kernel
theorem nd_Law_law_320 : decode code 320 = .ok (.ireturn, 1) := by decide +kernel
theorem nd_Law_law_321 : decode code 321 = .ok (.aload_n 1, 1) := by decide +kernel
theorem nd_Law_law_322 : decode code 322 = .ok (.aload_n 0, 1) := by decide +kernel
theorem nd_Law_law_323 : decode code 323 = .ok (.iload_n 3, 1) := by decide +kernel
theorem nd_Law_law_324 : decode code 324 = .ok (.iconst 1, 1) := by decide +kernel
theorem nd_Law_law_325 : decode code 325 = .ok (.iadd, 1) := by decide +kernel
theorem nd_Law_law_326 : decode code 326 = .ok (.iaload, 1) := by decide +kernel
theorem nd_Law_law_327 : decode code 327 = .ok (.invokevirtual 40, 3) := by decide +kernel
theorem nd_Law_law_330 : decode code 330 = .ok (.aload_n 2, 1) := by decide +kernel
theorem nd_Law_law_331 : decode code 331 = .ok (.aload_n 0, 1) := by decide +kernel
theorem nd_Law_law_332 : decode code 332 = .ok (.iload_n 3, 1) := by decide +kernel
theorem nd_Law_law_333 : decode code 333 = .ok (.iconst 1, 1) := by decide +kernel
theorem nd_Law_law_334 : decode code 334 = .ok (.iadd, 1) := by decide +kernel
theorem nd_Law_law_335 : decode code 335 = .ok (.iaload, 1) := by decide +kernel
theorem nd_Law_law_336 : decode code 336 = .ok (.invokevirtual 43, 3) := by decide +kernel
theorem nd_Law_law_339 : decode code 339 = .ok (.if_icmp .eq (184), 3) := by decide +kernel
theorem nd_Law_law_342 : decode code 342 = .ok (.iconst 0, 1) := by decide +kernel
theorem nd_Law_law_343 : decode code 343 = .ok (.ireturn, 1) := by decide +kernel
theorem nd_Law_law_344 : decode code 344 = .ok (.aload_n 1, 1) := by decide +kernel
theorem nd_Law_law_345 : decode code 345 = .ok (.aload_n 0, 1) := by decide +kernel
theorem nd_Law_law_346 : decode code 346 = .ok (.iload_n 3, 1) := by decide +kernel
theorem nd_Law_law_347 : decode code 347 = .ok (.iconst 1, 1) := by decide +kernel
theorem nd_Law_law_348 : decode code 348 = .ok (.iadd, 1) := by decide +kernel
theorem nd_Law_law_349 : decode code 349 = .ok (.iaload, 1) := by decide +kernel
theorem nd_Law_law_350 : decode code 350 = .ok (.invokevirtual 44, 3) := by decide +kernel
theorem nd_Law_law_353 : decode code 353 = .ok (.aload_n 2, 1) := by decide +kernel
theorem nd_Law_law_354 : decode code 354 = .ok (.aload_n 0, 1) := by decide +kernel
theorem nd_Law_law_355 : decode code 355 = .ok (.iload_n 3, 1) := by decide +kernel
theorem nd_Law_law_356 : decode code 356 = .ok (.iconst 1, 1) := by decide +kernel
theorem nd_Law_law_357 : decode code 357 = .ok (.iadd, 1) := by decide +kernel
theorem nd_Law_law_358 : decode code 358 = .ok (.iaload, 1) := by decide +kernel
theorem nd_Law_law_359 : decode code 359 = .ok (.invokevirtual 47, 3) := by decide +kernel
theorem nd_Law_law_362 : decode code 362 = .ok (.if_icmp .eq (161), 3) := by decide +kernel
theorem nd_Law_law_365 : decode code 365 = .ok (.iconst 0, 1) := by decide +kernel
theorem nd_Law_law_366 : decode code 366 = .ok (.ireturn, 1) := by decide +kernel
theorem nd_Law_law_367 : decode code 367 = .ok (.aload_n 1, 1) := by decide +kernel
theorem nd_Law_law_368 : decode code 368 = .ok (.aload_n 0, 1) := by decide +kernel
theorem nd_Law_law_369 : decode code 369 = .ok (.iload_n 3, 1) := by decide +kernel
theorem nd_Law_law_370 : decode code 370 = .ok (.iconst 1, 1) := by decide +kernel
theorem nd_Law_law_371 : decode code 371 = .ok (.iadd, 1) := by decide +kernel
theorem nd_Law_law_372 : decode code 372 = .ok (.iaload, 1) := by decide +kernel
theorem nd_Law_law_373 : decode code 373 = .ok (.invokevirtual 48, 3) := by decide +kernel
theorem nd_Law_law_376 : decode code 376 = .ok (.aload_n 2, 1) := by decide +kernel
theorem nd_Law_law_377 : decode code 377 = .ok (.aload_n 0, 1) := by decide +kernel
theorem nd_Law_law_378 : decode code 378 = .ok (.iload_n 3, 1) := by decide +kernel
theorem nd_Law_law_379 : decode code 379 = .ok (.iconst 1, 1) := by decide +kernel
theorem nd_Law_law_380 : decode code 380 = .ok (.iadd, 1) := by decide +kernel
theorem nd_Law_law_381 : decode code 381 = .ok (.iaload, 1) := by decide +kernel
theorem nd_Law_law_382 : decode code 382 = .ok (.invokevirtual 52, 3) := by decide +kernel
theorem nd_Law_law_385 : decode code 385 = .ok (.lcmp, 1) := by decide +kernel
theorem nd_Law_law_386 : decode code 386 = .ok (.ifCond .eq (137), 3) := by decide +kernel
theorem nd_Law_law_389 : decode code 389 = .ok (.iconst 0, 1) := by decide +kernel
theorem nd_Law_law_390 : decode code 390 = .ok (.ireturn, 1) := by decide +kernel
theorem nd_Law_law_391 : decode code 391 = .ok (.aload_n 1, 1) := by decide +kernel
theorem nd_Law_law_392 : decode code 392 = .ok (.aload_n 0, 1) := by decide +kernel
theorem nd_Law_law_393 : decode code 393 = .ok (.iload_n 3, 1) := by decide +kernel
theorem nd_Law_law_394 : decode code 394 = .ok (.iconst 1, 1) := by decide +kernel
theorem nd_Law_law_395 : decode code 395 = .ok (.iadd, 1) := by decide +kernel
theorem nd_Law_law_396 : decode code 396 = .ok (.iaload, 1) := by decide +kernel
theorem nd_Law_law_397 : decode code 397 = .ok (.aload_n 0, 1) := by decide +kernel
theorem nd_Law_law_398 : decode code 398 = .ok (.iload_n 3, 1) := by decide +kernel
theorem nd_Law_law_399 : decode code 399 = .ok (.iconst 2, 1) := by decide +kernel
theorem nd_Law_law_400 : decode code 400 = .ok (.iadd, 1) := by decide +kernel
theorem nd_Law_law_401 : decode code 401 = .ok (.iaload, 1) := by decide +kernel
theorem nd_Law_law_402 : decode code 402 = .ok (.invokevirtual 53, 3) := by decide +kernel
theorem nd_Law_law_405 : decode code 405 = .ok (.aload_n 2, 1) := by decide +kernel
theorem nd_Law_law_406 : decode code 406 = .ok (.aload_n 0, 1) := by decide +kernel
theorem nd_Law_law_407 : decode code 407 = .ok (.iload_n 3, 1) := by decide +kernel
theorem nd_Law_law_408 : decode code 408 = .ok (.iconst 1, 1) := by decide +kernel
theorem nd_Law_law_409 : decode code 409 = .ok (.iadd, 1) := by decide +kernel
theorem nd_Law_law_410 : decode code 410 = .ok (.iaload, 1) := by decide +kernel
theorem nd_Law_law_411 : decode code 411 = .ok (.aload_n 0, 1) := by decide +kernel
theorem nd_Law_law_412 : decode code 412 = .ok (.iload_n 3, 1) := by decide +kernel
theorem nd_Law_law_413 : decode code 413 = .ok (.iconst 2, 1) := by decide +kernel
theorem nd_Law_law_414 : decode code 414 = .ok (.iadd, 1) := by decide +kernel
theorem nd_Law_law_415 : decode code 415 = .ok (.iaload, 1) := by decide +kernel
theorem nd_Law_law_416 : decode code 416 = .ok (.invokevirtual 56, 3) := by decide +kernel
theorem nd_Law_law_419 : decode code 419 = .ok (.if_icmp .eq (104), 3) := by decide +kernel
theorem nd_Law_law_422 : decode code 422 = .ok (.iconst 0, 1) := by decide +kernel
theorem nd_Law_law_423 : decode code 423 = .ok (.ireturn, 1) := by decide +kernel
theorem nd_Law_law_424 : decode code 424 = .ok (.aload_n 1, 1) := by decide +kernel
theorem nd_Law_law_425 : decode code 425 = .ok (.invokevirtual 57, 3) := by decide +kernel
theorem nd_Law_law_428 : decode code 428 = .ok (.aload_n 2, 1) := by decide +kernel
theorem nd_Law_law_429 : decode code 429 = .ok (.invokevirtual 61, 3) := by decide +kernel
theorem nd_Law_law_432 : decode code 432 = .ok (.if_icmp .eq (91), 3) := by decide +kernel
theorem nd_Law_law_435 : decode code 435 = .ok (.iconst 0, 1) := by decide +kernel
theorem nd_Law_law_436 : decode code 436 = .ok (.ireturn, 1) := by decide +kernel
theorem nd_Law_law_437 : decode code 437 = .ok (.aload_n 1, 1) := by decide +kernel
theorem nd_Law_law_438 : decode code 438 = .ok (.aload_n 0, 1) := by decide +kernel
theorem nd_Law_law_439 : decode code 439 = .ok (.iload_n 3, 1) := by decide +kernel
theorem nd_Law_law_440 : decode code 440 = .ok (.iconst 1, 1) := by decide +kernel
theorem nd_Law_law_441 : decode code 441 = .ok (.iadd, 1) := by decide +kernel
theorem nd_Law_law_442 : decode code 442 = .ok (.iaload, 1) := by decide +kernel
theorem nd_Law_law_443 : decode code 443 = .ok (.aload_n 0, 1) := by decide +kernel
theorem nd_Law_law_444 : decode code 444 = .ok (.iload_n 3, 1) := by decide +kernel
theorem nd_Law_law_445 : decode code 445 = .ok (.iconst 2, 1) := by decide +kernel
theorem nd_Law_law_446 : decode code 446 = .ok (.iadd, 1) := by decide +kernel
theorem nd_Law_law_447 : decode code 447 = .ok (.iaload, 1) := by decide +kernel
theorem nd_Law_law_448 : decode code 448 = .ok (.invokevirtual 62, 3) := by decide +kernel
theorem nd_Law_law_451 : decode code 451 = .ok (.aload_n 2, 1) := by decide +kernel
theorem nd_Law_law_452 : decode code 452 = .ok (.aload_n 0, 1) := by decide +kernel
theorem nd_Law_law_453 : decode code 453 = .ok (.iload_n 3, 1) := by decide +kernel
theorem nd_Law_law_454 : decode code 454 = .ok (.iconst 1, 1) := by decide +kernel
theorem nd_Law_law_455 : decode code 455 = .ok (.iadd, 1) := by decide +kernel
theorem nd_Law_law_456 : decode code 456 = .ok (.iaload, 1) := by decide +kernel
theorem nd_Law_law_457 : decode code 457 = .ok (.aload_n 0, 1) := by decide +kernel
theorem nd_Law_law_458 : decode code 458 = .ok (.iload_n 3, 1) := by decide +kernel
theorem nd_Law_law_459 : decode code 459 = .ok (.iconst 2, 1) := by decide +kernel
theorem nd_Law_law_460 : decode code 460 = .ok (.iadd, 1) := by decide +kernel
theorem nd_Law_law_461 : decode code 461 = .ok (.iaload, 1) := by decide +kernel
theorem nd_Law_law_462 : decode code 462 = .ok (.invokevirtual 65, 3) := by decide +kernel
theorem nd_Law_law_465 : decode code 465 = .ok (.if_icmp .eq (58), 3) := by decide +kernel
theorem nd_Law_law_468 : decode code 468 = .ok (.iconst 0, 1) := by decide +kernel
theorem nd_Law_law_469 : decode code 469 = .ok (.ireturn, 1) := by decide +kernel
theorem nd_Law_law_470 : decode code 470 = .ok (.aload_n 1, 1) := by decide +kernel
theorem nd_Law_law_471 : decode code 471 = .ok (.aload_n 0, 1) := by decide +kernel
theorem nd_Law_law_472 : decode code 472 = .ok (.iload_n 3, 1) := by decide +kernel
theorem nd_Law_law_473 : decode code 473 = .ok (.iconst 1, 1) := by decide +kernel
theorem nd_Law_law_474 : decode code 474 = .ok (.iadd, 1) := by decide +kernel
theorem nd_Law_law_475 : decode code 475 = .ok (.iaload, 1) := by decide +kernel
theorem nd_Law_law_476 : decode code 476 = .ok (.i2l, 1) := by decide +kernel
theorem nd_Law_law_477 : decode code 477 = .ok (.bipush 32, 2) := by decide +kernel
theorem nd_Law_law_479 : decode code 479 = .ok (.lshl, 1) := by decide +kernel
theorem nd_Law_law_480 : decode code 480 = .ok (.aload_n 0, 1) := by decide +kernel
theorem nd_Law_law_481 : decode code 481 = .ok (.iload_n 3, 1) := by decide +kernel
theorem nd_Law_law_482 : decode code 482 = .ok (.iconst 2, 1) := by decide +kernel
theorem nd_Law_law_483 : decode code 483 = .ok (.iadd, 1) := by decide +kernel
theorem nd_Law_law_484 : decode code 484 = .ok (.iaload, 1) := by decide +kernel
theorem nd_Law_law_485 : decode code 485 = .ok (.i2l, 1) := by decide +kernel
theorem nd_Law_law_486 : decode code 486 = .ok (.ldc2_w 23, 3) := by decide +kernel
theorem nd_Law_law_489 : decode code 489 = .ok (.land, 1) := by decide +kernel
theorem nd_Law_law_490 : decode code 490 = .ok (.lor, 1) := by decide +kernel
theorem nd_Law_law_491 : decode code 491 = .ok (.invokevirtual 66, 3) := by decide +kernel
theorem nd_Law_law_494 : decode code 494 = .ok (.aload_n 2, 1) := by decide +kernel
theorem nd_Law_law_495 : decode code 495 = .ok (.aload_n 0, 1) := by decide +kernel
theorem nd_Law_law_496 : decode code 496 = .ok (.iload_n 3, 1) := by decide +kernel
theorem nd_Law_law_497 : decode code 497 = .ok (.iconst 1, 1) := by decide +kernel
theorem nd_Law_law_498 : decode code 498 = .ok (.iadd, 1) := by decide +kernel
theorem nd_Law_law_499 : decode code 499 = .ok (.iaload, 1) := by decide +kernel
theorem nd_Law_law_500 : decode code 500 = .ok (.i2l, 1) := by decide +kernel
theorem nd_Law_law_501 : decode code 501 = .ok (.bipush 32, 2) := by decide +kernel
theorem nd_Law_law_503 : decode code 503 = .ok (.lshl, 1) := by decide +kernel
theorem nd_Law_law_504 : decode code 504 = .ok (.aload_n 0, 1) := by decide +kernel
theorem nd_Law_law_505 : decode code 505 = .ok (.iload_n 3, 1) := by decide +kernel
theorem nd_Law_law_506 : decode code 506 = .ok (.iconst 2, 1) := by decide +kernel
theorem nd_Law_law_507 : decode code 507 = .ok (.iadd, 1) := by decide +kernel
theorem nd_Law_law_508 : decode code 508 = .ok (.iaload, 1) := by decide +kernel
theorem nd_Law_law_509 : decode code 509 = .ok (.i2l, 1) := by decide +kernel
theorem nd_Law_law_510 : decode code 510 = .ok (.ldc2_w 23, 3) := by decide +kernel
theorem nd_Law_law_513 : decode code 513 = .ok (.land, 1) := by decide +kernel
theorem nd_Law_law_514 : decode code 514 = .ok (.lor, 1) := by decide +kernel
theorem nd_Law_law_515 : decode code 515 = .ok (.invokevirtual 70, 3) := by decide +kernel
theorem nd_Law_law_518 : decode code 518 = .ok (.if_icmp .eq (5), 3) := by decide +kernel
theorem nd_Law_law_521 : decode code 521 = .ok (.iconst 0, 1) := by decide +kernel
theorem nd_Law_law_522 : decode code 522 = .ok (.ireturn, 1) := by decide +kernel
theorem nd_Law_law_523 : decode code 523 = .ok (.iinc 3 6, 3) := by decide +kernel
theorem nd_Law_law_526 : decode code 526 = .ok (.goto (-508), 3) := by decide +kernel
theorem nd_Law_law_529 : decode code 529 = .ok (.iconst 1, 1) := by decide +kernel
theorem nd_Law_law_530 : decode code 530 = .ok (.ireturn, 1) := by decide +kernel
