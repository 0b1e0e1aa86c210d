/-! THE CLAIM OUT OF ONE WALK OF THE LAW'S BODY. Your part is whole_start (and what it stands on); all else here is the same for every law, but numbers. -/
def R_law : String := "GuaranteeBookLaw"
def lw_P (b : Addr) (xs : List Int32) (args : Array Value) (s : State) : Prop := args = #[.ref b] ∧ s.IntsAt b xs ∧ xs.length ≤ 4096 ∧ (Jvm.Cond.and given_1 narrow_1).before args s = true
def lw_Q (_ : Array Value) (s : State) (o : Outcome) (t : State) : Prop := o = .returned (some (.int 1)) ∧ Framed s o t [] 601024 7293034
def lw_Z (below : List Frame) (a : Array Value) (s : State) : State → Prop := fun t => ∃ o, t.status = .running ∧ Ended t below o ∧ lw_Q a s o t
/-- the law's own end, with 1 on the stack, nothing written that was there before, its room as the claim has it -/
theorem lw_ret {p : Program} {l : Launch} {e : Env} {s : State} {m : MethodId} {below : List Frame} {meth : Method} {c : Code} {b : Nat} (hx : p.tables.exec = Jvm.exec) (hb : c.code = code) (hr : meth.sig.returnType = ret) (hlocks : meth.locks = false) {pc : Nat} {H : Heap} {ls : Array Slot} (hdg : decode code pc = .ok (.ireturn, 1)) : W p l e room_1 s m #[Value.ref b] below meth c H [] 601024 7293034 (lw_Z below #[Value.ref b] s) (F0 m pc ls [.int 1]) := by
  intro T hT X
  obtain ⟨fs, hret, hrun, hended, hW, hframe⟩ := X.leave (v := some (.int 1)) (hlocks := hlocks) (fun h => by rw [hr] at h; cases h)
  have hmeth' : T.vm.method? m = some meth := X.method'
  refine ⟨T.setFrames fs, ?_, .returned (some (.int 1)), hrun, hended, rfl, ⟨_, rfl⟩, hW, hframe⟩
  jvm_step X.here [X.here.top, hx, hb, hdg, hmeth', hr, ret, narrow_b1]
  (try refine ⟨rfl, ?_⟩); (try refine ⟨rfl, ?_⟩)
  first | (intro acts; rw [hret _ acts rfl rfl rfl]) | rw [hret _ _ rfl rfl rfl]
  exact Steps.refl _
/-- what holds at the law's entry: the machine, the code, the tables' words (any of lw_tbl by 'hts w (by decide +kernel)'), the script of L ints xs at the cell b, what the Statement gives of the start (any of its parts by flat_of_before) -/
def lw_At (p : Program) (s : State) (m : MethodId) (meth : Method) (c : Code) (b L : Nat) (xs : Nat → Int32) : Prop :=
  p.tables.exec = Jvm.exec ∧ c.code = code ∧ meth.sig.returnType = ret ∧ c.maxLocals = 8 ∧ s.vm.findClass R_law = some m.cls ∧ (∀ w ∈ lw_tbl, w.before #[Value.ref b] s = true) ∧ va_X b L xs s s.heap ∧ b < s.heap.size ∧ meth.locks = false ∧ (Jvm.Cond.and given_1 narrow_1).before #[Value.ref b] s = true
theorem dL_law_0 : decode code 0 = .ok (.new 8, 3) := by decide +kernel
theorem dL_law_3 : decode code 3 = .ok (.dup, 1) := by decide +kernel
theorem dL_law_4 : decode code 4 = .ok (.invokespecial 45, 3) := by decide +kernel
theorem dL_law_7 : decode code 7 = .ok (.astore_n 1, 1) := by decide +kernel
theorem dL_law_8 : decode code 8 = .ok (.new 46, 3) := by decide +kernel
theorem dL_law_11 : decode code 11 = .ok (.dup, 1) := by decide +kernel
theorem dL_law_12 : decode code 12 = .ok (.invokespecial 48, 3) := by decide +kernel
theorem dL_law_15 : decode code 15 = .ok (.astore_n 2, 1) := by decide +kernel
theorem dL_law_16 : decode code 16 = .ok (.iconst 1, 1) := by decide +kernel
theorem dL_law_17 : decode code 17 = .ok (.newarray .long, 2) := by decide +kernel
theorem dL_law_19 : decode code 19 = .ok (.astore_n 3, 1) := by decide +kernel
theorem dL_law_20 : decode code 20 = .ok (.iconst 0, 1) := by decide +kernel
theorem dL_law_21 : decode code 21 = .ok (.istore 4, 2) := by decide +kernel
theorem dL_law_23 : decode code 23 = .ok (.iload 4, 2) := by decide +kernel
theorem dL_law_25 : decode code 25 = .ok (.aload_n 0, 1) := by decide +kernel
theorem dL_law_26 : decode code 26 = .ok (.arraylength, 1) := by decide +kernel
theorem dL_law_27 : decode code 27 = .ok (.bipush 8, 2) := by decide +kernel
theorem dL_law_29 : decode code 29 = .ok (.isub, 1) := by decide +kernel
theorem dL_law_30 : decode code 30 = .ok (.if_icmp .gt 1043, 3) := by decide +kernel
theorem dL_law_33 : decode code 33 = .ok (.aload_n 0, 1) := by decide +kernel
theorem dL_law_34 : decode code 34 = .ok (.iload 4, 2) := by decide +kernel
theorem dL_law_36 : decode code 36 = .ok (.iaload, 1) := by decide +kernel
theorem dL_law_37 : decode code 37 = .ok (.bipush 15, 2) := by decide +kernel
theorem dL_law_39 : decode code 39 = .ok (.iand, 1) := by decide +kernel
theorem dL_law_40 : decode code 40 = .ok (.tableswitch 1027 0 14 #[76, 244, 269, 381, 449, 548, 647, 672, 725, 750, 805, 831, 868, 935, 1002], 76) := by decide +kernel
theorem dL_law_116 : decode code 116 = .ok (.aload_n 1, 1) := by decide +kernel
theorem dL_law_117 : decode code 117 = .ok (.aload_n 0, 1) := by decide +kernel
theorem dL_law_118 : decode code 118 = .ok (.iload 4, 2) := by decide +kernel
theorem dL_law_120 : decode code 120 = .ok (.iconst 1, 1) := by decide +kernel
theorem dL_law_121 : decode code 121 = .ok (.iadd, 1) := by decide +kernel
theorem dL_law_122 : decode code 122 = .ok (.iaload, 1) := by decide +kernel
theorem dL_law_123 : decode code 123 = .ok (.aload_n 0, 1) := by decide +kernel
theorem dL_law_124 : decode code 124 = .ok (.iload 4, 2) := by decide +kernel
theorem dL_law_126 : decode code 126 = .ok (.iconst 2, 1) := by decide +kernel
theorem dL_law_127 : decode code 127 = .ok (.iadd, 1) := by decide +kernel
theorem dL_law_128 : decode code 128 = .ok (.iaload, 1) := by decide +kernel
theorem dL_law_129 : decode code 129 = .ok (.i2l, 1) := by decide +kernel
theorem dL_law_130 : decode code 130 = .ok (.bipush 32, 2) := by decide +kernel
theorem dL_law_132 : decode code 132 = .ok (.lshl, 1) := by decide +kernel
theorem dL_law_133 : decode code 133 = .ok (.aload_n 0, 1) := by decide +kernel
theorem dL_law_134 : decode code 134 = .ok (.iload 4, 2) := by decide +kernel
theorem dL_law_136 : decode code 136 = .ok (.iconst 3, 1) := by decide +kernel
theorem dL_law_137 : decode code 137 = .ok (.iadd, 1) := by decide +kernel
theorem dL_law_138 : decode code 138 = .ok (.iaload, 1) := by decide +kernel
theorem dL_law_139 : decode code 139 = .ok (.i2l, 1) := by decide +kernel
theorem dL_law_140 : decode code 140 = .ok (.ldc2_w 49, 3) := by decide +kernel
theorem dL_law_143 : decode code 143 = .ok (.land, 1) := by decide +kernel
theorem dL_law_144 : decode code 144 = .ok (.lor, 1) := by decide +kernel
theorem dL_law_145 : decode code 145 = .ok (.aload_n 0, 1) := by decide +kernel
theorem dL_law_146 : decode code 146 = .ok (.iload 4, 2) := by decide +kernel
theorem dL_law_148 : decode code 148 = .ok (.iconst 4, 1) := by decide +kernel
theorem dL_law_149 : decode code 149 = .ok (.iadd, 1) := by decide +kernel
theorem dL_law_150 : decode code 150 = .ok (.iaload, 1) := by decide +kernel
theorem dL_law_151 : decode code 151 = .ok (.aload_n 0, 1) := by decide +kernel
theorem dL_law_152 : decode code 152 = .ok (.iload 4, 2) := by decide +kernel
theorem dL_law_154 : decode code 154 = .ok (.iconst 5, 1) := by decide +kernel
theorem dL_law_155 : decode code 155 = .ok (.iadd, 1) := by decide +kernel
theorem dL_law_156 : decode code 156 = .ok (.iaload, 1) := by decide +kernel
theorem dL_law_157 : decode code 157 = .ok (.aload_n 0, 1) := by decide +kernel
theorem dL_law_158 : decode code 158 = .ok (.iload 4, 2) := by decide +kernel
theorem dL_law_160 : decode code 160 = .ok (.bipush 6, 2) := by decide +kernel
theorem dL_law_162 : decode code 162 = .ok (.iadd, 1) := by decide +kernel
theorem dL_law_163 : decode code 163 = .ok (.iaload, 1) := by decide +kernel
theorem dL_law_164 : decode code 164 = .ok (.ifCond .eq 7, 3) := by decide +kernel
theorem dL_law_167 : decode code 167 = .ok (.iconst 1, 1) := by decide +kernel
theorem dL_law_168 : decode code 168 = .ok (.goto 4, 3) := by decide +kernel
theorem dL_law_171 : decode code 171 = .ok (.iconst 0, 1) := by decide +kernel
theorem dL_law_172 : decode code 172 = .ok (.aload_n 0, 1) := by decide +kernel
theorem dL_law_173 : decode code 173 = .ok (.iload 4, 2) := by decide +kernel
theorem dL_law_175 : decode code 175 = .ok (.bipush 7, 2) := by decide +kernel
theorem dL_law_177 : decode code 177 = .ok (.iadd, 1) := by decide +kernel
theorem dL_law_178 : decode code 178 = .ok (.iaload, 1) := by decide +kernel
theorem dL_law_179 : decode code 179 = .ok (.aload_n 3, 1) := by decide +kernel
theorem dL_law_180 : decode code 180 = .ok (.invokestatic 51, 3) := by decide +kernel
theorem dL_law_183 : decode code 183 = .ok (.istore 5, 2) := by decide +kernel
theorem dL_law_185 : decode code 185 = .ok (.aload_n 2, 1) := by decide +kernel
theorem dL_law_186 : decode code 186 = .ok (.aload_n 0, 1) := by decide +kernel
theorem dL_law_187 : decode code 187 = .ok (.iload 4, 2) := by decide +kernel
theorem dL_law_189 : decode code 189 = .ok (.iconst 1, 1) := by decide +kernel
theorem dL_law_190 : decode code 190 = .ok (.iadd, 1) := by decide +kernel
theorem dL_law_191 : decode code 191 = .ok (.iaload, 1) := by decide +kernel
theorem dL_law_192 : decode code 192 = .ok (.aload_n 0, 1) := by decide +kernel
theorem dL_law_193 : decode code 193 = .ok (.iload 4, 2) := by decide +kernel
theorem dL_law_195 : decode code 195 = .ok (.iconst 2, 1) := by decide +kernel
theorem dL_law_196 : decode code 196 = .ok (.iadd, 1) := by decide +kernel
theorem dL_law_197 : decode code 197 = .ok (.iaload, 1) := by decide +kernel
theorem dL_law_198 : decode code 198 = .ok (.i2l, 1) := by decide +kernel
theorem dL_law_199 : decode code 199 = .ok (.bipush 32, 2) := by decide +kernel
theorem dL_law_201 : decode code 201 = .ok (.lshl, 1) := by decide +kernel
theorem dL_law_202 : decode code 202 = .ok (.aload_n 0, 1) := by decide +kernel
theorem dL_law_203 : decode code 203 = .ok (.iload 4, 2) := by decide +kernel
theorem dL_law_205 : decode code 205 = .ok (.iconst 3, 1) := by decide +kernel
theorem dL_law_206 : decode code 206 = .ok (.iadd, 1) := by decide +kernel
theorem dL_law_207 : decode code 207 = .ok (.iaload, 1) := by decide +kernel
theorem dL_law_208 : decode code 208 = .ok (.i2l, 1) := by decide +kernel
theorem dL_law_209 : decode code 209 = .ok (.ldc2_w 49, 3) := by decide +kernel
theorem dL_law_212 : decode code 212 = .ok (.land, 1) := by decide +kernel
theorem dL_law_213 : decode code 213 = .ok (.lor, 1) := by decide +kernel
theorem dL_law_214 : decode code 214 = .ok (.aload_n 0, 1) := by decide +kernel
theorem dL_law_215 : decode code 215 = .ok (.iload 4, 2) := by decide +kernel
theorem dL_law_217 : decode code 217 = .ok (.iconst 4, 1) := by decide +kernel
theorem dL_law_218 : decode code 218 = .ok (.iadd, 1) := by decide +kernel
theorem dL_law_219 : decode code 219 = .ok (.iaload, 1) := by decide +kernel
theorem dL_law_220 : decode code 220 = .ok (.aload_n 0, 1) := by decide +kernel
theorem dL_law_221 : decode code 221 = .ok (.iload 4, 2) := by decide +kernel
theorem dL_law_223 : decode code 223 = .ok (.iconst 5, 1) := by decide +kernel
theorem dL_law_224 : decode code 224 = .ok (.iadd, 1) := by decide +kernel
theorem dL_law_225 : decode code 225 = .ok (.iaload, 1) := by decide +kernel
theorem dL_law_226 : decode code 226 = .ok (.aload_n 0, 1) := by decide +kernel
theorem dL_law_227 : decode code 227 = .ok (.iload 4, 2) := by decide +kernel
theorem dL_law_229 : decode code 229 = .ok (.bipush 6, 2) := by decide +kernel
theorem dL_law_231 : decode code 231 = .ok (.iadd, 1) := by decide +kernel
theorem dL_law_232 : decode code 232 = .ok (.iaload, 1) := by decide +kernel
theorem dL_law_233 : decode code 233 = .ok (.ifCond .eq 7, 3) := by decide +kernel
theorem dL_law_236 : decode code 236 = .ok (.iconst 1, 1) := by decide +kernel
theorem dL_law_237 : decode code 237 = .ok (.goto 4, 3) := by decide +kernel
theorem dL_law_240 : decode code 240 = .ok (.iconst 0, 1) := by decide +kernel
theorem dL_law_241 : decode code 241 = .ok (.aload_n 0, 1) := by decide +kernel
theorem dL_law_242 : decode code 242 = .ok (.iload 4, 2) := by decide +kernel
theorem dL_law_244 : decode code 244 = .ok (.bipush 7, 2) := by decide +kernel
theorem dL_law_246 : decode code 246 = .ok (.iadd, 1) := by decide +kernel
theorem dL_law_247 : decode code 247 = .ok (.iaload, 1) := by decide +kernel
theorem dL_law_248 : decode code 248 = .ok (.invokevirtual 56, 3) := by decide +kernel
theorem dL_law_251 : decode code 251 = .ok (.istore 6, 2) := by decide +kernel
theorem dL_law_253 : decode code 253 = .ok (.aload_n 2, 1) := by decide +kernel
theorem dL_law_254 : decode code 254 = .ok (.invokevirtual 57, 3) := by decide +kernel
theorem dL_law_257 : decode code 257 = .ok (.iload 5, 2) := by decide +kernel
theorem dL_law_259 : decode code 259 = .ok (.if_icmp .eq 5, 3) := by decide +kernel
theorem dL_law_262 : decode code 262 = .ok (.iconst 0, 1) := by decide +kernel
theorem dL_law_263 : decode code 263 = .ok (.ireturn, 1) := by decide +kernel
theorem dL_law_264 : decode code 264 = .ok (.iload 5, 2) := by decide +kernel
theorem dL_law_266 : decode code 266 = .ok (.ifCond .ne 15, 3) := by decide +kernel
theorem dL_law_269 : decode code 269 = .ok (.aload_n 3, 1) := by decide +kernel
theorem dL_law_270 : decode code 270 = .ok (.iconst 0, 1) := by decide +kernel
theorem dL_law_271 : decode code 271 = .ok (.laload, 1) := by decide +kernel
theorem dL_law_272 : decode code 272 = .ok (.iload 6, 2) := by decide +kernel
theorem dL_law_274 : decode code 274 = .ok (.i2l, 1) := by decide +kernel
theorem dL_law_275 : decode code 275 = .ok (.lcmp, 1) := by decide +kernel
theorem dL_law_276 : decode code 276 = .ok (.ifCond .eq 5, 3) := by decide +kernel
theorem dL_law_279 : decode code 279 = .ok (.iconst 0, 1) := by decide +kernel
theorem dL_law_280 : decode code 280 = .ok (.ireturn, 1) := by decide +kernel
theorem dL_law_281 : decode code 281 = .ok (.goto 786, 3) := by decide +kernel
theorem dL_law_284 : decode code 284 = .ok (.aload_n 1, 1) := by decide +kernel
theorem dL_law_285 : decode code 285 = .ok (.aload_n 0, 1) := by decide +kernel
theorem dL_law_286 : decode code 286 = .ok (.iload 4, 2) := by decide +kernel
theorem dL_law_288 : decode code 288 = .ok (.iconst 1, 1) := by decide +kernel
theorem dL_law_289 : decode code 289 = .ok (.iadd, 1) := by decide +kernel
theorem dL_law_290 : decode code 290 = .ok (.iaload, 1) := by decide +kernel
theorem dL_law_291 : decode code 291 = .ok (.invokevirtual 61, 3) := by decide +kernel
theorem dL_law_294 : decode code 294 = .ok (.aload_n 2, 1) := by decide +kernel
theorem dL_law_295 : decode code 295 = .ok (.aload_n 0, 1) := by decide +kernel
theorem dL_law_296 : decode code 296 = .ok (.iload 4, 2) := by decide +kernel
theorem dL_law_298 : decode code 298 = .ok (.iconst 1, 1) := by decide +kernel
theorem dL_law_299 : decode code 299 = .ok (.iadd, 1) := by decide +kernel
theorem dL_law_300 : decode code 300 = .ok (.iaload, 1) := by decide +kernel
theorem dL_law_301 : decode code 301 = .ok (.invokevirtual 65, 3) := by decide +kernel
theorem dL_law_304 : decode code 304 = .ok (.if_icmp .eq 763, 3) := by decide +kernel
theorem dL_law_307 : decode code 307 = .ok (.iconst 0, 1) := by decide +kernel
theorem dL_law_308 : decode code 308 = .ok (.ireturn, 1) := by decide +kernel
theorem dL_law_309 : decode code 309 = .ok (.aload_n 1, 1) := by decide +kernel
theorem dL_law_310 : decode code 310 = .ok (.aload_n 0, 1) := by decide +kernel
theorem dL_law_311 : decode code 311 = .ok (.iload 4, 2) := by decide +kernel
theorem dL_law_313 : decode code 313 = .ok (.iconst 1, 1) := by decide +kernel
theorem dL_law_314 : decode code 314 = .ok (.iadd, 1) := by decide +kernel
theorem dL_law_315 : decode code 315 = .ok (.iaload, 1) := by decide +kernel
theorem dL_law_316 : decode code 316 = .ok (.aload_n 0, 1) := by decide +kernel
theorem dL_law_317 : decode code 317 = .ok (.iload 4, 2) := by decide +kernel
theorem dL_law_319 : decode code 319 = .ok (.iconst 2, 1) := by decide +kernel
theorem dL_law_320 : decode code 320 = .ok (.iadd, 1) := by decide +kernel
theorem dL_law_321 : decode code 321 = .ok (.iaload, 1) := by decide +kernel
theorem dL_law_322 : decode code 322 = .ok (.aload_n 0, 1) := by decide +kernel
theorem dL_law_323 : decode code 323 = .ok (.iload 4, 2) := by decide +kernel
theorem dL_law_325 : decode code 325 = .ok (.iconst 3, 1) := by decide +kernel
theorem dL_law_326 : decode code 326 = .ok (.iadd, 1) := by decide +kernel
theorem dL_law_327 : decode code 327 = .ok (.iaload, 1) := by decide +kernel
theorem dL_law_328 : decode code 328 = .ok (.i2l, 1) := by decide +kernel
theorem dL_law_329 : decode code 329 = .ok (.bipush 32, 2) := by decide +kernel
theorem dL_law_331 : decode code 331 = .ok (.lshl, 1) := by decide +kernel
theorem dL_law_332 : decode code 332 = .ok (.aload_n 0, 1) := by decide +kernel
theorem dL_law_333 : decode code 333 = .ok (.iload 4, 2) := by decide +kernel
theorem dL_law_335 : decode code 335 = .ok (.iconst 4, 1) := by decide +kernel
theorem dL_law_336 : decode code 336 = .ok (.iadd, 1) := by decide +kernel
theorem dL_law_337 : decode code 337 = .ok (.iaload, 1) := by decide +kernel
theorem dL_law_338 : decode code 338 = .ok (.i2l, 1) := by decide +kernel
theorem dL_law_339 : decode code 339 = .ok (.ldc2_w 49, 3) := by decide +kernel
theorem dL_law_342 : decode code 342 = .ok (.land, 1) := by decide +kernel
theorem dL_law_343 : decode code 343 = .ok (.lor, 1) := by decide +kernel
theorem dL_law_344 : decode code 344 = .ok (.aload_n 3, 1) := by decide +kernel
theorem dL_law_345 : decode code 345 = .ok (.invokestatic 66, 3) := by decide +kernel
theorem dL_law_348 : decode code 348 = .ok (.istore 5, 2) := by decide +kernel
theorem dL_law_350 : decode code 350 = .ok (.aload_n 2, 1) := by decide +kernel
theorem dL_law_351 : decode code 351 = .ok (.aload_n 0, 1) := by decide +kernel
theorem dL_law_352 : decode code 352 = .ok (.iload 4, 2) := by decide +kernel
theorem dL_law_354 : decode code 354 = .ok (.iconst 1, 1) := by decide +kernel
theorem dL_law_355 : decode code 355 = .ok (.iadd, 1) := by decide +kernel
theorem dL_law_356 : decode code 356 = .ok (.iaload, 1) := by decide +kernel
theorem dL_law_357 : decode code 357 = .ok (.aload_n 0, 1) := by decide +kernel
theorem dL_law_358 : decode code 358 = .ok (.iload 4, 2) := by decide +kernel
theorem dL_law_360 : decode code 360 = .ok (.iconst 2, 1) := by decide +kernel
theorem dL_law_361 : decode code 361 = .ok (.iadd, 1) := by decide +kernel
theorem dL_law_362 : decode code 362 = .ok (.iaload, 1) := by decide +kernel
theorem dL_law_363 : decode code 363 = .ok (.aload_n 0, 1) := by decide +kernel
theorem dL_law_364 : decode code 364 = .ok (.iload 4, 2) := by decide +kernel
theorem dL_law_366 : decode code 366 = .ok (.iconst 3, 1) := by decide +kernel
theorem dL_law_367 : decode code 367 = .ok (.iadd, 1) := by decide +kernel
theorem dL_law_368 : decode code 368 = .ok (.iaload, 1) := by decide +kernel
theorem dL_law_369 : decode code 369 = .ok (.i2l, 1) := by decide +kernel
theorem dL_law_370 : decode code 370 = .ok (.bipush 32, 2) := by decide +kernel
theorem dL_law_372 : decode code 372 = .ok (.lshl, 1) := by decide +kernel
theorem dL_law_373 : decode code 373 = .ok (.aload_n 0, 1) := by decide +kernel
theorem dL_law_374 : decode code 374 = .ok (.iload 4, 2) := by decide +kernel
theorem dL_law_376 : decode code 376 = .ok (.iconst 4, 1) := by decide +kernel
theorem dL_law_377 : decode code 377 = .ok (.iadd, 1) := by decide +kernel
theorem dL_law_378 : decode code 378 = .ok (.iaload, 1) := by decide +kernel
theorem dL_law_379 : decode code 379 = .ok (.i2l, 1) := by decide +kernel
theorem dL_law_380 : decode code 380 = .ok (.ldc2_w 49, 3) := by decide +kernel
theorem dL_law_383 : decode code 383 = .ok (.land, 1) := by decide +kernel
theorem dL_law_384 : decode code 384 = .ok (.lor, 1) := by decide +kernel
theorem dL_law_385 : decode code 385 = .ok (.invokevirtual 69, 3) := by decide +kernel
theorem dL_law_388 : decode code 388 = .ok (.istore 6, 2) := by decide +kernel
theorem dL_law_390 : decode code 390 = .ok (.aload_n 2, 1) := by decide +kernel
theorem dL_law_391 : decode code 391 = .ok (.invokevirtual 57, 3) := by decide +kernel
theorem dL_law_394 : decode code 394 = .ok (.iload 5, 2) := by decide +kernel
theorem dL_law_396 : decode code 396 = .ok (.if_icmp .eq 5, 3) := by decide +kernel
theorem dL_law_399 : decode code 399 = .ok (.iconst 0, 1) := by decide +kernel
theorem dL_law_400 : decode code 400 = .ok (.ireturn, 1) := by decide +kernel
theorem dL_law_401 : decode code 401 = .ok (.iload 5, 2) := by decide +kernel
theorem dL_law_403 : decode code 403 = .ok (.ifCond .ne 15, 3) := by decide +kernel
theorem dL_law_406 : decode code 406 = .ok (.aload_n 3, 1) := by decide +kernel
theorem dL_law_407 : decode code 407 = .ok (.iconst 0, 1) := by decide +kernel
theorem dL_law_408 : decode code 408 = .ok (.laload, 1) := by decide +kernel
theorem dL_law_409 : decode code 409 = .ok (.iload 6, 2) := by decide +kernel
theorem dL_law_411 : decode code 411 = .ok (.i2l, 1) := by decide +kernel
theorem dL_law_412 : decode code 412 = .ok (.lcmp, 1) := by decide +kernel
theorem dL_law_413 : decode code 413 = .ok (.ifCond .eq 5, 3) := by decide +kernel
theorem dL_law_416 : decode code 416 = .ok (.iconst 0, 1) := by decide +kernel
theorem dL_law_417 : decode code 417 = .ok (.ireturn, 1) := by decide +kernel
theorem dL_law_418 : decode code 418 = .ok (.goto 649, 3) := by decide +kernel
theorem dL_law_421 : decode code 421 = .ok (.aload_n 1, 1) := by decide +kernel
theorem dL_law_422 : decode code 422 = .ok (.aload_n 0, 1) := by decide +kernel
theorem dL_law_423 : decode code 423 = .ok (.iload 4, 2) := by decide +kernel
theorem dL_law_425 : decode code 425 = .ok (.iconst 1, 1) := by decide +kernel
theorem dL_law_426 : decode code 426 = .ok (.iadd, 1) := by decide +kernel
theorem dL_law_427 : decode code 427 = .ok (.iaload, 1) := by decide +kernel
theorem dL_law_428 : decode code 428 = .ok (.aload_n 0, 1) := by decide +kernel
theorem dL_law_429 : decode code 429 = .ok (.iload 4, 2) := by decide +kernel
theorem dL_law_431 : decode code 431 = .ok (.iconst 2, 1) := by decide +kernel
theorem dL_law_432 : decode code 432 = .ok (.iadd, 1) := by decide +kernel
theorem dL_law_433 : decode code 433 = .ok (.iaload, 1) := by decide +kernel
theorem dL_law_434 : decode code 434 = .ok (.aload_n 3, 1) := by decide +kernel
theorem dL_law_435 : decode code 435 = .ok (.invokestatic 70, 3) := by decide +kernel
theorem dL_law_438 : decode code 438 = .ok (.istore 5, 2) := by decide +kernel
theorem dL_law_440 : decode code 440 = .ok (.aload_n 2, 1) := by decide +kernel
theorem dL_law_441 : decode code 441 = .ok (.aload_n 0, 1) := by decide +kernel
theorem dL_law_442 : decode code 442 = .ok (.iload 4, 2) := by decide +kernel
theorem dL_law_444 : decode code 444 = .ok (.iconst 1, 1) := by decide +kernel
theorem dL_law_445 : decode code 445 = .ok (.iadd, 1) := by decide +kernel
theorem dL_law_446 : decode code 446 = .ok (.iaload, 1) := by decide +kernel
theorem dL_law_447 : decode code 447 = .ok (.aload_n 0, 1) := by decide +kernel
theorem dL_law_448 : decode code 448 = .ok (.iload 4, 2) := by decide +kernel
theorem dL_law_450 : decode code 450 = .ok (.iconst 2, 1) := by decide +kernel
theorem dL_law_451 : decode code 451 = .ok (.iadd, 1) := by decide +kernel
theorem dL_law_452 : decode code 452 = .ok (.iaload, 1) := by decide +kernel
theorem dL_law_453 : decode code 453 = .ok (.invokevirtual 73, 3) := by decide +kernel
theorem dL_law_456 : decode code 456 = .ok (.istore 6, 2) := by decide +kernel
theorem dL_law_458 : decode code 458 = .ok (.aload_n 2, 1) := by decide +kernel
theorem dL_law_459 : decode code 459 = .ok (.invokevirtual 57, 3) := by decide +kernel
theorem dL_law_462 : decode code 462 = .ok (.iload 5, 2) := by decide +kernel
theorem dL_law_464 : decode code 464 = .ok (.if_icmp .eq 5, 3) := by decide +kernel
theorem dL_law_467 : decode code 467 = .ok (.iconst 0, 1) := by decide +kernel
theorem dL_law_468 : decode code 468 = .ok (.ireturn, 1) := by decide +kernel
theorem dL_law_469 : decode code 469 = .ok (.iload 5, 2) := by decide +kernel
theorem dL_law_471 : decode code 471 = .ok (.ifCond .ne 15, 3) := by decide +kernel
theorem dL_law_474 : decode code 474 = .ok (.aload_n 3, 1) := by decide +kernel
theorem dL_law_475 : decode code 475 = .ok (.iconst 0, 1) := by decide +kernel
theorem dL_law_476 : decode code 476 = .ok (.laload, 1) := by decide +kernel
theorem dL_law_477 : decode code 477 = .ok (.iload 6, 2) := by decide +kernel
theorem dL_law_479 : decode code 479 = .ok (.i2l, 1) := by decide +kernel
theorem dL_law_480 : decode code 480 = .ok (.lcmp, 1) := by decide +kernel
theorem dL_law_481 : decode code 481 = .ok (.ifCond .eq 5, 3) := by decide +kernel
theorem dL_law_484 : decode code 484 = .ok (.iconst 0, 1) := by decide +kernel
theorem dL_law_485 : decode code 485 = .ok (.ireturn, 1) := by decide +kernel
theorem dL_law_486 : decode code 486 = .ok (.goto 581, 3) := by decide +kernel
theorem dL_law_489 : decode code 489 = .ok (.aload_n 1, 1) := by decide +kernel
theorem dL_law_490 : decode code 490 = .ok (.aload_n 0, 1) := by decide +kernel
theorem dL_law_491 : decode code 491 = .ok (.iload 4, 2) := by decide +kernel
theorem dL_law_493 : decode code 493 = .ok (.iconst 1, 1) := by decide +kernel
theorem dL_law_494 : decode code 494 = .ok (.iadd, 1) := by decide +kernel
theorem dL_law_495 : decode code 495 = .ok (.iaload, 1) := by decide +kernel
theorem dL_law_496 : decode code 496 = .ok (.aload_n 0, 1) := by decide +kernel
theorem dL_law_497 : decode code 497 = .ok (.iload 4, 2) := by decide +kernel
theorem dL_law_499 : decode code 499 = .ok (.iconst 2, 1) := by decide +kernel
theorem dL_law_500 : decode code 500 = .ok (.iadd, 1) := by decide +kernel
theorem dL_law_501 : decode code 501 = .ok (.iaload, 1) := by decide +kernel
theorem dL_law_502 : decode code 502 = .ok (.i2l, 1) := by decide +kernel
theorem dL_law_503 : decode code 503 = .ok (.bipush 32, 2) := by decide +kernel
theorem dL_law_505 : decode code 505 = .ok (.lshl, 1) := by decide +kernel
theorem dL_law_506 : decode code 506 = .ok (.aload_n 0, 1) := by decide +kernel
theorem dL_law_507 : decode code 507 = .ok (.iload 4, 2) := by decide +kernel
theorem dL_law_509 : decode code 509 = .ok (.iconst 3, 1) := by decide +kernel
theorem dL_law_510 : decode code 510 = .ok (.iadd, 1) := by decide +kernel
theorem dL_law_511 : decode code 511 = .ok (.iaload, 1) := by decide +kernel
theorem dL_law_512 : decode code 512 = .ok (.i2l, 1) := by decide +kernel
theorem dL_law_513 : decode code 513 = .ok (.ldc2_w 49, 3) := by decide +kernel
theorem dL_law_516 : decode code 516 = .ok (.land, 1) := by decide +kernel
theorem dL_law_517 : decode code 517 = .ok (.lor, 1) := by decide +kernel
theorem dL_law_518 : decode code 518 = .ok (.aload_n 3, 1) := by decide +kernel
theorem dL_law_519 : decode code 519 = .ok (.invokestatic 74, 3) := by decide +kernel
theorem dL_law_522 : decode code 522 = .ok (.istore 5, 2) := by decide +kernel
theorem dL_law_524 : decode code 524 = .ok (.aload_n 2, 1) := by decide +kernel
theorem dL_law_525 : decode code 525 = .ok (.aload_n 0, 1) := by decide +kernel
theorem dL_law_526 : decode code 526 = .ok (.iload 4, 2) := by decide +kernel
theorem dL_law_528 : decode code 528 = .ok (.iconst 1, 1) := by decide +kernel
theorem dL_law_529 : decode code 529 = .ok (.iadd, 1) := by decide +kernel
theorem dL_law_530 : decode code 530 = .ok (.iaload, 1) := by decide +kernel
theorem dL_law_531 : decode code 531 = .ok (.aload_n 0, 1) := by decide +kernel
theorem dL_law_532 : decode code 532 = .ok (.iload 4, 2) := by decide +kernel
theorem dL_law_534 : decode code 534 = .ok (.iconst 2, 1) := by decide +kernel
theorem dL_law_535 : decode code 535 = .ok (.iadd, 1) := by decide +kernel
theorem dL_law_536 : decode code 536 = .ok (.iaload, 1) := by decide +kernel
theorem dL_law_537 : decode code 537 = .ok (.i2l, 1) := by decide +kernel
theorem dL_law_538 : decode code 538 = .ok (.bipush 32, 2) := by decide +kernel
theorem dL_law_540 : decode code 540 = .ok (.lshl, 1) := by decide +kernel
theorem dL_law_541 : decode code 541 = .ok (.aload_n 0, 1) := by decide +kernel
theorem dL_law_542 : decode code 542 = .ok (.iload 4, 2) := by decide +kernel
theorem dL_law_544 : decode code 544 = .ok (.iconst 3, 1) := by decide +kernel
theorem dL_law_545 : decode code 545 = .ok (.iadd, 1) := by decide +kernel
theorem dL_law_546 : decode code 546 = .ok (.iaload, 1) := by decide +kernel
theorem dL_law_547 : decode code 547 = .ok (.i2l, 1) := by decide +kernel
theorem dL_law_548 : decode code 548 = .ok (.ldc2_w 49, 3) := by decide +kernel
theorem dL_law_551 : decode code 551 = .ok (.land, 1) := by decide +kernel
theorem dL_law_552 : decode code 552 = .ok (.lor, 1) := by decide +kernel
theorem dL_law_553 : decode code 553 = .ok (.invokevirtual 77, 3) := by decide +kernel
theorem dL_law_556 : decode code 556 = .ok (.lstore 6, 2) := by decide +kernel
theorem dL_law_558 : decode code 558 = .ok (.aload_n 2, 1) := by decide +kernel
theorem dL_law_559 : decode code 559 = .ok (.invokevirtual 57, 3) := by decide +kernel
theorem dL_law_562 : decode code 562 = .ok (.iload 5, 2) := by decide +kernel
theorem dL_law_564 : decode code 564 = .ok (.if_icmp .eq 5, 3) := by decide +kernel
theorem dL_law_567 : decode code 567 = .ok (.iconst 0, 1) := by decide +kernel
theorem dL_law_568 : decode code 568 = .ok (.ireturn, 1) := by decide +kernel
theorem dL_law_569 : decode code 569 = .ok (.iload 5, 2) := by decide +kernel
theorem dL_law_571 : decode code 571 = .ok (.ifCond .ne 14, 3) := by decide +kernel
theorem dL_law_574 : decode code 574 = .ok (.aload_n 3, 1) := by decide +kernel
theorem dL_law_575 : decode code 575 = .ok (.iconst 0, 1) := by decide +kernel
theorem dL_law_576 : decode code 576 = .ok (.laload, 1) := by decide +kernel
theorem dL_law_577 : decode code 577 = .ok (.lload 6, 2) := by decide +kernel
theorem dL_law_579 : decode code 579 = .ok (.lcmp, 1) := by decide +kernel
theorem dL_law_580 : decode code 580 = .ok (.ifCond .eq 5, 3) := by decide +kernel
theorem dL_law_583 : decode code 583 = .ok (.iconst 0, 1) := by decide +kernel
theorem dL_law_584 : decode code 584 = .ok (.ireturn, 1) := by decide +kernel
theorem dL_law_585 : decode code 585 = .ok (.goto 482, 3) := by decide +kernel
theorem dL_law_588 : decode code 588 = .ok (.aload_n 1, 1) := by decide +kernel
theorem dL_law_589 : decode code 589 = .ok (.aload_n 0, 1) := by decide +kernel
theorem dL_law_590 : decode code 590 = .ok (.iload 4, 2) := by decide +kernel
theorem dL_law_592 : decode code 592 = .ok (.iconst 1, 1) := by decide +kernel
theorem dL_law_593 : decode code 593 = .ok (.iadd, 1) := by decide +kernel
theorem dL_law_594 : decode code 594 = .ok (.iaload, 1) := by decide +kernel
theorem dL_law_595 : decode code 595 = .ok (.aload_n 0, 1) := by decide +kernel
theorem dL_law_596 : decode code 596 = .ok (.iload 4, 2) := by decide +kernel
theorem dL_law_598 : decode code 598 = .ok (.iconst 2, 1) := by decide +kernel
theorem dL_law_599 : decode code 599 = .ok (.iadd, 1) := by decide +kernel
theorem dL_law_600 : decode code 600 = .ok (.iaload, 1) := by decide +kernel
theorem dL_law_601 : decode code 601 = .ok (.i2l, 1) := by decide +kernel
theorem dL_law_602 : decode code 602 = .ok (.bipush 32, 2) := by decide +kernel
theorem dL_law_604 : decode code 604 = .ok (.lshl, 1) := by decide +kernel
theorem dL_law_605 : decode code 605 = .ok (.aload_n 0, 1) := by decide +kernel
theorem dL_law_606 : decode code 606 = .ok (.iload 4, 2) := by decide +kernel
theorem dL_law_608 : decode code 608 = .ok (.iconst 3, 1) := by decide +kernel
theorem dL_law_609 : decode code 609 = .ok (.iadd, 1) := by decide +kernel
theorem dL_law_610 : decode code 610 = .ok (.iaload, 1) := by decide +kernel
theorem dL_law_611 : decode code 611 = .ok (.i2l, 1) := by decide +kernel
theorem dL_law_612 : decode code 612 = .ok (.ldc2_w 49, 3) := by decide +kernel
theorem dL_law_615 : decode code 615 = .ok (.land, 1) := by decide +kernel
theorem dL_law_616 : decode code 616 = .ok (.lor, 1) := by decide +kernel
theorem dL_law_617 : decode code 617 = .ok (.aload_n 3, 1) := by decide +kernel
theorem dL_law_618 : decode code 618 = .ok (.invokestatic 78, 3) := by decide +kernel
theorem dL_law_621 : decode code 621 = .ok (.istore 5, 2) := by decide +kernel
theorem dL_law_623 : decode code 623 = .ok (.aload_n 2, 1) := by decide +kernel
theorem dL_law_624 : decode code 624 = .ok (.aload_n 0, 1) := by decide +kernel
theorem dL_law_625 : decode code 625 = .ok (.iload 4, 2) := by decide +kernel
theorem dL_law_627 : decode code 627 = .ok (.iconst 1, 1) := by decide +kernel
theorem dL_law_628 : decode code 628 = .ok (.iadd, 1) := by decide +kernel
theorem dL_law_629 : decode code 629 = .ok (.iaload, 1) := by decide +kernel
theorem dL_law_630 : decode code 630 = .ok (.aload_n 0, 1) := by decide +kernel
theorem dL_law_631 : decode code 631 = .ok (.iload 4, 2) := by decide +kernel
theorem dL_law_633 : decode code 633 = .ok (.iconst 2, 1) := by decide +kernel
theorem dL_law_634 : decode code 634 = .ok (.iadd, 1) := by decide +kernel
theorem dL_law_635 : decode code 635 = .ok (.iaload, 1) := by decide +kernel
theorem dL_law_636 : decode code 636 = .ok (.i2l, 1) := by decide +kernel
theorem dL_law_637 : decode code 637 = .ok (.bipush 32, 2) := by decide +kernel
theorem dL_law_639 : decode code 639 = .ok (.lshl, 1) := by decide +kernel
theorem dL_law_640 : decode code 640 = .ok (.aload_n 0, 1) := by decide +kernel
theorem dL_law_641 : decode code 641 = .ok (.iload 4, 2) := by decide +kernel
theorem dL_law_643 : decode code 643 = .ok (.iconst 3, 1) := by decide +kernel
theorem dL_law_644 : decode code 644 = .ok (.iadd, 1) := by decide +kernel
theorem dL_law_645 : decode code 645 = .ok (.iaload, 1) := by decide +kernel
theorem dL_law_646 : decode code 646 = .ok (.i2l, 1) := by decide +kernel
theorem dL_law_647 : decode code 647 = .ok (.ldc2_w 49, 3) := by decide +kernel
theorem dL_law_650 : decode code 650 = .ok (.land, 1) := by decide +kernel
theorem dL_law_651 : decode code 651 = .ok (.lor, 1) := by decide +kernel
theorem dL_law_652 : decode code 652 = .ok (.invokevirtual 80, 3) := by decide +kernel
theorem dL_law_655 : decode code 655 = .ok (.lstore 6, 2) := by decide +kernel
theorem dL_law_657 : decode code 657 = .ok (.aload_n 2, 1) := by decide +kernel
theorem dL_law_658 : decode code 658 = .ok (.invokevirtual 57, 3) := by decide +kernel
theorem dL_law_661 : decode code 661 = .ok (.iload 5, 2) := by decide +kernel
theorem dL_law_663 : decode code 663 = .ok (.if_icmp .eq 5, 3) := by decide +kernel
theorem dL_law_666 : decode code 666 = .ok (.iconst 0, 1) := by decide +kernel
theorem dL_law_667 : decode code 667 = .ok (.ireturn, 1) := by decide +kernel
theorem dL_law_668 : decode code 668 = .ok (.iload 5, 2) := by decide +kernel
theorem dL_law_670 : decode code 670 = .ok (.ifCond .ne 14, 3) := by decide +kernel
theorem dL_law_673 : decode code 673 = .ok (.aload_n 3, 1) := by decide +kernel
theorem dL_law_674 : decode code 674 = .ok (.iconst 0, 1) := by decide +kernel
theorem dL_law_675 : decode code 675 = .ok (.laload, 1) := by decide +kernel
theorem dL_law_676 : decode code 676 = .ok (.lload 6, 2) := by decide +kernel
theorem dL_law_678 : decode code 678 = .ok (.lcmp, 1) := by decide +kernel
theorem dL_law_679 : decode code 679 = .ok (.ifCond .eq 5, 3) := by decide +kernel
theorem dL_law_682 : decode code 682 = .ok (.iconst 0, 1) := by decide +kernel
theorem dL_law_683 : decode code 683 = .ok (.ireturn, 1) := by decide +kernel
theorem dL_law_684 : decode code 684 = .ok (.goto 383, 3) := by decide +kernel
theorem dL_law_687 : decode code 687 = .ok (.aload_n 1, 1) := by decide +kernel
theorem dL_law_688 : decode code 688 = .ok (.aload_n 0, 1) := by decide +kernel
theorem dL_law_689 : decode code 689 = .ok (.iload 4, 2) := by decide +kernel
theorem dL_law_691 : decode code 691 = .ok (.iconst 1, 1) := by decide +kernel
theorem dL_law_692 : decode code 692 = .ok (.iadd, 1) := by decide +kernel
theorem dL_law_693 : decode code 693 = .ok (.iaload, 1) := by decide +kernel
theorem dL_law_694 : decode code 694 = .ok (.invokevirtual 81, 3) := by decide +kernel
theorem dL_law_697 : decode code 697 = .ok (.aload_n 2, 1) := by decide +kernel
theorem dL_law_698 : decode code 698 = .ok (.aload_n 0, 1) := by decide +kernel
theorem dL_law_699 : decode code 699 = .ok (.iload 4, 2) := by decide +kernel
theorem dL_law_701 : decode code 701 = .ok (.iconst 1, 1) := by decide +kernel
theorem dL_law_702 : decode code 702 = .ok (.iadd, 1) := by decide +kernel
theorem dL_law_703 : decode code 703 = .ok (.iaload, 1) := by decide +kernel
theorem dL_law_704 : decode code 704 = .ok (.invokevirtual 84, 3) := by decide +kernel
theorem dL_law_707 : decode code 707 = .ok (.if_icmp .eq 360, 3) := by decide +kernel
theorem dL_law_710 : decode code 710 = .ok (.iconst 0, 1) := by decide +kernel
theorem dL_law_711 : decode code 711 = .ok (.ireturn, 1) := by decide +kernel
theorem dL_law_712 : decode code 712 = .ok (.aload_n 1, 1) := by decide +kernel
theorem dL_law_713 : decode code 713 = .ok (.aload_n 0, 1) := by decide +kernel
theorem dL_law_714 : decode code 714 = .ok (.iload 4, 2) := by decide +kernel
theorem dL_law_716 : decode code 716 = .ok (.iconst 1, 1) := by decide +kernel
theorem dL_law_717 : decode code 717 = .ok (.iadd, 1) := by decide +kernel
theorem dL_law_718 : decode code 718 = .ok (.iaload, 1) := by decide +kernel
theorem dL_law_719 : decode code 719 = .ok (.aload_n 0, 1) := by decide +kernel
theorem dL_law_720 : decode code 720 = .ok (.iload 4, 2) := by decide +kernel
theorem dL_law_722 : decode code 722 = .ok (.iconst 2, 1) := by decide +kernel
theorem dL_law_723 : decode code 723 = .ok (.iadd, 1) := by decide +kernel
theorem dL_law_724 : decode code 724 = .ok (.iaload, 1) := by decide +kernel
theorem dL_law_725 : decode code 725 = .ok (.ifCond .eq 7, 3) := by decide +kernel
theorem dL_law_728 : decode code 728 = .ok (.iconst 1, 1) := by decide +kernel
theorem dL_law_729 : decode code 729 = .ok (.goto 4, 3) := by decide +kernel
theorem dL_law_732 : decode code 732 = .ok (.iconst 0, 1) := by decide +kernel
theorem dL_law_733 : decode code 733 = .ok (.invokevirtual 85, 3) := by decide +kernel
theorem dL_law_736 : decode code 736 = .ok (.aload_n 2, 1) := by decide +kernel
theorem dL_law_737 : decode code 737 = .ok (.aload_n 0, 1) := by decide +kernel
theorem dL_law_738 : decode code 738 = .ok (.iload 4, 2) := by decide +kernel
theorem dL_law_740 : decode code 740 = .ok (.iconst 1, 1) := by decide +kernel
theorem dL_law_741 : decode code 741 = .ok (.iadd, 1) := by decide +kernel
theorem dL_law_742 : decode code 742 = .ok (.iaload, 1) := by decide +kernel
theorem dL_law_743 : decode code 743 = .ok (.aload_n 0, 1) := by decide +kernel
theorem dL_law_744 : decode code 744 = .ok (.iload 4, 2) := by decide +kernel
theorem dL_law_746 : decode code 746 = .ok (.iconst 2, 1) := by decide +kernel
theorem dL_law_747 : decode code 747 = .ok (.iadd, 1) := by decide +kernel
theorem dL_law_748 : decode code 748 = .ok (.iaload, 1) := by decide +kernel
theorem dL_law_749 : decode code 749 = .ok (.ifCond .eq 7, 3) := by decide +kernel
theorem dL_law_752 : decode code 752 = .ok (.iconst 1, 1) := by decide +kernel
theorem dL_law_753 : decode code 753 = .ok (.goto 4, 3) := by decide +kernel
theorem dL_law_756 : decode code 756 = .ok (.iconst 0, 1) := by decide +kernel
theorem dL_law_757 : decode code 757 = .ok (.invokevirtual 89, 3) := by decide +kernel
theorem dL_law_760 : decode code 760 = .ok (.if_icmp .eq 307, 3) := by decide +kernel
theorem dL_law_763 : decode code 763 = .ok (.iconst 0, 1) := by decide +kernel
theorem dL_law_764 : decode code 764 = .ok (.ireturn, 1) := by decide +kernel
theorem dL_law_765 : decode code 765 = .ok (.aload_n 1, 1) := by decide +kernel
theorem dL_law_766 : decode code 766 = .ok (.aload_n 0, 1) := by decide +kernel
theorem dL_law_767 : decode code 767 = .ok (.iload 4, 2) := by decide +kernel
theorem dL_law_769 : decode code 769 = .ok (.iconst 1, 1) := by decide +kernel
theorem dL_law_770 : decode code 770 = .ok (.iadd, 1) := by decide +kernel
theorem dL_law_771 : decode code 771 = .ok (.iaload, 1) := by decide +kernel
theorem dL_law_772 : decode code 772 = .ok (.invokevirtual 90, 3) := by decide +kernel
theorem dL_law_775 : decode code 775 = .ok (.aload_n 2, 1) := by decide +kernel
theorem dL_law_776 : decode code 776 = .ok (.aload_n 0, 1) := by decide +kernel
theorem dL_law_777 : decode code 777 = .ok (.iload 4, 2) := by decide +kernel
theorem dL_law_779 : decode code 779 = .ok (.iconst 1, 1) := by decide +kernel
theorem dL_law_780 : decode code 780 = .ok (.iadd, 1) := by decide +kernel
theorem dL_law_781 : decode code 781 = .ok (.iaload, 1) := by decide +kernel
theorem dL_law_782 : decode code 782 = .ok (.invokevirtual 93, 3) := by decide +kernel
theorem dL_law_785 : decode code 785 = .ok (.if_icmp .eq 282, 3) := by decide +kernel
theorem dL_law_788 : decode code 788 = .ok (.iconst 0, 1) := by decide +kernel
theorem dL_law_789 : decode code 789 = .ok (.ireturn, 1) := by decide +kernel
theorem dL_law_790 : decode code 790 = .ok (.aload_n 1, 1) := by decide +kernel
theorem dL_law_791 : decode code 791 = .ok (.aload_n 0, 1) := by decide +kernel
theorem dL_law_792 : decode code 792 = .ok (.iload 4, 2) := by decide +kernel
theorem dL_law_794 : decode code 794 = .ok (.iconst 1, 1) := by decide +kernel
theorem dL_law_795 : decode code 795 = .ok (.iadd, 1) := by decide +kernel
theorem dL_law_796 : decode code 796 = .ok (.iaload, 1) := by decide +kernel
theorem dL_law_797 : decode code 797 = .ok (.aload_n 3, 1) := by decide +kernel
theorem dL_law_798 : decode code 798 = .ok (.invokestatic 94, 3) := by decide +kernel
theorem dL_law_801 : decode code 801 = .ok (.istore 5, 2) := by decide +kernel
theorem dL_law_803 : decode code 803 = .ok (.aload_n 2, 1) := by decide +kernel
theorem dL_law_804 : decode code 804 = .ok (.aload_n 0, 1) := by decide +kernel
theorem dL_law_805 : decode code 805 = .ok (.iload 4, 2) := by decide +kernel
theorem dL_law_807 : decode code 807 = .ok (.iconst 1, 1) := by decide +kernel
theorem dL_law_808 : decode code 808 = .ok (.iadd, 1) := by decide +kernel
theorem dL_law_809 : decode code 809 = .ok (.iaload, 1) := by decide +kernel
theorem dL_law_810 : decode code 810 = .ok (.invokevirtual 97, 3) := by decide +kernel
theorem dL_law_813 : decode code 813 = .ok (.lstore 6, 2) := by decide +kernel
theorem dL_law_815 : decode code 815 = .ok (.aload_n 2, 1) := by decide +kernel
theorem dL_law_816 : decode code 816 = .ok (.invokevirtual 57, 3) := by decide +kernel
theorem dL_law_819 : decode code 819 = .ok (.iload 5, 2) := by decide +kernel
theorem dL_law_821 : decode code 821 = .ok (.if_icmp .eq 5, 3) := by decide +kernel
theorem dL_law_824 : decode code 824 = .ok (.iconst 0, 1) := by decide +kernel
theorem dL_law_825 : decode code 825 = .ok (.ireturn, 1) := by decide +kernel
theorem dL_law_826 : decode code 826 = .ok (.iload 5, 2) := by decide +kernel
theorem dL_law_828 : decode code 828 = .ok (.ifCond .ne 14, 3) := by decide +kernel
theorem dL_law_831 : decode code 831 = .ok (.aload_n 3, 1) := by decide +kernel
theorem dL_law_832 : decode code 832 = .ok (.iconst 0, 1) := by decide +kernel
theorem dL_law_833 : decode code 833 = .ok (.laload, 1) := by decide +kernel
theorem dL_law_834 : decode code 834 = .ok (.lload 6, 2) := by decide +kernel
theorem dL_law_836 : decode code 836 = .ok (.lcmp, 1) := by decide +kernel
theorem dL_law_837 : decode code 837 = .ok (.ifCond .eq 5, 3) := by decide +kernel
theorem dL_law_840 : decode code 840 = .ok (.iconst 0, 1) := by decide +kernel
theorem dL_law_841 : decode code 841 = .ok (.ireturn, 1) := by decide +kernel
theorem dL_law_842 : decode code 842 = .ok (.goto 225, 3) := by decide +kernel
theorem dL_law_845 : decode code 845 = .ok (.aload_n 1, 1) := by decide +kernel
theorem dL_law_846 : decode code 846 = .ok (.aload_n 0, 1) := by decide +kernel
theorem dL_law_847 : decode code 847 = .ok (.iload 4, 2) := by decide +kernel
theorem dL_law_849 : decode code 849 = .ok (.iconst 1, 1) := by decide +kernel
theorem dL_law_850 : decode code 850 = .ok (.iadd, 1) := by decide +kernel
theorem dL_law_851 : decode code 851 = .ok (.iaload, 1) := by decide +kernel
theorem dL_law_852 : decode code 852 = .ok (.invokevirtual 98, 3) := by decide +kernel
theorem dL_law_855 : decode code 855 = .ok (.aload_n 2, 1) := by decide +kernel
theorem dL_law_856 : decode code 856 = .ok (.aload_n 0, 1) := by decide +kernel
theorem dL_law_857 : decode code 857 = .ok (.iload 4, 2) := by decide +kernel
theorem dL_law_859 : decode code 859 = .ok (.iconst 1, 1) := by decide +kernel
theorem dL_law_860 : decode code 860 = .ok (.iadd, 1) := by decide +kernel
theorem dL_law_861 : decode code 861 = .ok (.iaload, 1) := by decide +kernel
theorem dL_law_862 : decode code 862 = .ok (.invokevirtual 101, 3) := by decide +kernel
theorem dL_law_865 : decode code 865 = .ok (.lcmp, 1) := by decide +kernel
theorem dL_law_866 : decode code 866 = .ok (.ifCond .eq 201, 3) := by decide +kernel
theorem dL_law_869 : decode code 869 = .ok (.iconst 0, 1) := by decide +kernel
theorem dL_law_870 : decode code 870 = .ok (.ireturn, 1) := by decide +kernel
theorem dL_law_871 : decode code 871 = .ok (.aload_n 1, 1) := by decide +kernel
theorem dL_law_872 : decode code 872 = .ok (.aload_n 0, 1) := by decide +kernel
theorem dL_law_873 : decode code 873 = .ok (.iload 4, 2) := by decide +kernel
theorem dL_law_875 : decode code 875 = .ok (.iconst 1, 1) := by decide +kernel
theorem dL_law_876 : decode code 876 = .ok (.iadd, 1) := by decide +kernel
theorem dL_law_877 : decode code 877 = .ok (.iaload, 1) := by decide +kernel
theorem dL_law_878 : decode code 878 = .ok (.aload_n 0, 1) := by decide +kernel
theorem dL_law_879 : decode code 879 = .ok (.iload 4, 2) := by decide +kernel
theorem dL_law_881 : decode code 881 = .ok (.iconst 2, 1) := by decide +kernel
theorem dL_law_882 : decode code 882 = .ok (.iadd, 1) := by decide +kernel
theorem dL_law_883 : decode code 883 = .ok (.iaload, 1) := by decide +kernel
theorem dL_law_884 : decode code 884 = .ok (.invokevirtual 102, 3) := by decide +kernel
theorem dL_law_887 : decode code 887 = .ok (.aload_n 2, 1) := by decide +kernel
theorem dL_law_888 : decode code 888 = .ok (.aload_n 0, 1) := by decide +kernel
theorem dL_law_889 : decode code 889 = .ok (.iload 4, 2) := by decide +kernel
theorem dL_law_891 : decode code 891 = .ok (.iconst 1, 1) := by decide +kernel
theorem dL_law_892 : decode code 892 = .ok (.iadd, 1) := by decide +kernel
theorem dL_law_893 : decode code 893 = .ok (.iaload, 1) := by decide +kernel
theorem dL_law_894 : decode code 894 = .ok (.aload_n 0, 1) := by decide +kernel
theorem dL_law_895 : decode code 895 = .ok (.iload 4, 2) := by decide +kernel
theorem dL_law_897 : decode code 897 = .ok (.iconst 2, 1) := by decide +kernel
theorem dL_law_898 : decode code 898 = .ok (.iadd, 1) := by decide +kernel
theorem dL_law_899 : decode code 899 = .ok (.iaload, 1) := by decide +kernel
theorem dL_law_900 : decode code 900 = .ok (.invokevirtual 105, 3) := by decide +kernel
theorem dL_law_903 : decode code 903 = .ok (.if_icmp .eq 164, 3) := by decide +kernel
theorem dL_law_906 : decode code 906 = .ok (.iconst 0, 1) := by decide +kernel
theorem dL_law_907 : decode code 907 = .ok (.ireturn, 1) := by decide +kernel
theorem dL_law_908 : decode code 908 = .ok (.aload_n 1, 1) := by decide +kernel
theorem dL_law_909 : decode code 909 = .ok (.aload_n 0, 1) := by decide +kernel
theorem dL_law_910 : decode code 910 = .ok (.iload 4, 2) := by decide +kernel
theorem dL_law_912 : decode code 912 = .ok (.iconst 1, 1) := by decide +kernel
theorem dL_law_913 : decode code 913 = .ok (.iadd, 1) := by decide +kernel
theorem dL_law_914 : decode code 914 = .ok (.iaload, 1) := by decide +kernel
theorem dL_law_915 : decode code 915 = .ok (.aload_n 0, 1) := by decide +kernel
theorem dL_law_916 : decode code 916 = .ok (.iload 4, 2) := by decide +kernel
theorem dL_law_918 : decode code 918 = .ok (.iconst 2, 1) := by decide +kernel
theorem dL_law_919 : decode code 919 = .ok (.iadd, 1) := by decide +kernel
theorem dL_law_920 : decode code 920 = .ok (.iaload, 1) := by decide +kernel
theorem dL_law_921 : decode code 921 = .ok (.aload_n 3, 1) := by decide +kernel
theorem dL_law_922 : decode code 922 = .ok (.invokestatic 106, 3) := by decide +kernel
theorem dL_law_925 : decode code 925 = .ok (.istore 5, 2) := by decide +kernel
theorem dL_law_927 : decode code 927 = .ok (.aload_n 2, 1) := by decide +kernel
theorem dL_law_928 : decode code 928 = .ok (.aload_n 0, 1) := by decide +kernel
theorem dL_law_929 : decode code 929 = .ok (.iload 4, 2) := by decide +kernel
theorem dL_law_931 : decode code 931 = .ok (.iconst 1, 1) := by decide +kernel
theorem dL_law_932 : decode code 932 = .ok (.iadd, 1) := by decide +kernel
theorem dL_law_933 : decode code 933 = .ok (.iaload, 1) := by decide +kernel
theorem dL_law_934 : decode code 934 = .ok (.aload_n 0, 1) := by decide +kernel
theorem dL_law_935 : decode code 935 = .ok (.iload 4, 2) := by decide +kernel
theorem dL_law_937 : decode code 937 = .ok (.iconst 2, 1) := by decide +kernel
theorem dL_law_938 : decode code 938 = .ok (.iadd, 1) := by decide +kernel
theorem dL_law_939 : decode code 939 = .ok (.iaload, 1) := by decide +kernel
theorem dL_law_940 : decode code 940 = .ok (.invokevirtual 108, 3) := by decide +kernel
theorem dL_law_943 : decode code 943 = .ok (.lstore 6, 2) := by decide +kernel
theorem dL_law_945 : decode code 945 = .ok (.aload_n 2, 1) := by decide +kernel
theorem dL_law_946 : decode code 946 = .ok (.invokevirtual 57, 3) := by decide +kernel
theorem dL_law_949 : decode code 949 = .ok (.iload 5, 2) := by decide +kernel
theorem dL_law_951 : decode code 951 = .ok (.if_icmp .eq 5, 3) := by decide +kernel
theorem dL_law_954 : decode code 954 = .ok (.iconst 0, 1) := by decide +kernel
theorem dL_law_955 : decode code 955 = .ok (.ireturn, 1) := by decide +kernel
theorem dL_law_956 : decode code 956 = .ok (.iload 5, 2) := by decide +kernel
theorem dL_law_958 : decode code 958 = .ok (.ifCond .ne 14, 3) := by decide +kernel
theorem dL_law_961 : decode code 961 = .ok (.aload_n 3, 1) := by decide +kernel
theorem dL_law_962 : decode code 962 = .ok (.iconst 0, 1) := by decide +kernel
theorem dL_law_963 : decode code 963 = .ok (.laload, 1) := by decide +kernel
theorem dL_law_964 : decode code 964 = .ok (.lload 6, 2) := by decide +kernel
theorem dL_law_966 : decode code 966 = .ok (.lcmp, 1) := by decide +kernel
theorem dL_law_967 : decode code 967 = .ok (.ifCond .eq 5, 3) := by decide +kernel
theorem dL_law_970 : decode code 970 = .ok (.iconst 0, 1) := by decide +kernel
theorem dL_law_971 : decode code 971 = .ok (.ireturn, 1) := by decide +kernel
theorem dL_law_972 : decode code 972 = .ok (.goto 95, 3) := by decide +kernel
theorem dL_law_975 : decode code 975 = .ok (.aload_n 1, 1) := by decide +kernel
theorem dL_law_976 : decode code 976 = .ok (.aload_n 0, 1) := by decide +kernel
theorem dL_law_977 : decode code 977 = .ok (.iload 4, 2) := by decide +kernel
theorem dL_law_979 : decode code 979 = .ok (.iconst 1, 1) := by decide +kernel
theorem dL_law_980 : decode code 980 = .ok (.iadd, 1) := by decide +kernel
theorem dL_law_981 : decode code 981 = .ok (.iaload, 1) := by decide +kernel
theorem dL_law_982 : decode code 982 = .ok (.aload_n 0, 1) := by decide +kernel
theorem dL_law_983 : decode code 983 = .ok (.iload 4, 2) := by decide +kernel
theorem dL_law_985 : decode code 985 = .ok (.iconst 2, 1) := by decide +kernel
theorem dL_law_986 : decode code 986 = .ok (.iadd, 1) := by decide +kernel
theorem dL_law_987 : decode code 987 = .ok (.iaload, 1) := by decide +kernel
theorem dL_law_988 : decode code 988 = .ok (.aload_n 3, 1) := by decide +kernel
theorem dL_law_989 : decode code 989 = .ok (.invokestatic 109, 3) := by decide +kernel
theorem dL_law_992 : decode code 992 = .ok (.istore 5, 2) := by decide +kernel
theorem dL_law_994 : decode code 994 = .ok (.aload_n 2, 1) := by decide +kernel
theorem dL_law_995 : decode code 995 = .ok (.aload_n 0, 1) := by decide +kernel
theorem dL_law_996 : decode code 996 = .ok (.iload 4, 2) := by decide +kernel
theorem dL_law_998 : decode code 998 = .ok (.iconst 1, 1) := by decide +kernel
theorem dL_law_999 : decode code 999 = .ok (.iadd, 1) := by decide +kernel
theorem dL_law_1000 : decode code 1000 = .ok (.iaload, 1) := by decide +kernel
theorem dL_law_1001 : decode code 1001 = .ok (.aload_n 0, 1) := by decide +kernel
theorem dL_law_1002 : decode code 1002 = .ok (.iload 4, 2) := by decide +kernel
theorem dL_law_1004 : decode code 1004 = .ok (.iconst 2, 1) := by decide +kernel
theorem dL_law_1005 : decode code 1005 = .ok (.iadd, 1) := by decide +kernel
theorem dL_law_1006 : decode code 1006 = .ok (.iaload, 1) := by decide +kernel
theorem dL_law_1007 : decode code 1007 = .ok (.invokevirtual 111, 3) := by decide +kernel
theorem dL_law_1010 : decode code 1010 = .ok (.lstore 6, 2) := by decide +kernel
theorem dL_law_1012 : decode code 1012 = .ok (.aload_n 2, 1) := by decide +kernel
theorem dL_law_1013 : decode code 1013 = .ok (.invokevirtual 57, 3) := by decide +kernel
theorem dL_law_1016 : decode code 1016 = .ok (.iload 5, 2) := by decide +kernel
theorem dL_law_1018 : decode code 1018 = .ok (.if_icmp .eq 5, 3) := by decide +kernel
theorem dL_law_1021 : decode code 1021 = .ok (.iconst 0, 1) := by decide +kernel
theorem dL_law_1022 : decode code 1022 = .ok (.ireturn, 1) := by decide +kernel
theorem dL_law_1023 : decode code 1023 = .ok (.iload 5, 2) := by decide +kernel
theorem dL_law_1025 : decode code 1025 = .ok (.ifCond .ne 14, 3) := by decide +kernel
theorem dL_law_1028 : decode code 1028 = .ok (.aload_n 3, 1) := by decide +kernel
theorem dL_law_1029 : decode code 1029 = .ok (.iconst 0, 1) := by decide +kernel
theorem dL_law_1030 : decode code 1030 = .ok (.laload, 1) := by decide +kernel
theorem dL_law_1031 : decode code 1031 = .ok (.lload 6, 2) := by decide +kernel
theorem dL_law_1033 : decode code 1033 = .ok (.lcmp, 1) := by decide +kernel
theorem dL_law_1034 : decode code 1034 = .ok (.ifCond .eq 5, 3) := by decide +kernel
theorem dL_law_1037 : decode code 1037 = .ok (.iconst 0, 1) := by decide +kernel
theorem dL_law_1038 : decode code 1038 = .ok (.ireturn, 1) := by decide +kernel
theorem dL_law_1039 : decode code 1039 = .ok (.goto 28, 3) := by decide +kernel
theorem dL_law_1042 : decode code 1042 = .ok (.aload_n 1, 1) := by decide +kernel
theorem dL_law_1043 : decode code 1043 = .ok (.aload_n 0, 1) := by decide +kernel
theorem dL_law_1044 : decode code 1044 = .ok (.iload 4, 2) := by decide +kernel
theorem dL_law_1046 : decode code 1046 = .ok (.iconst 1, 1) := by decide +kernel
theorem dL_law_1047 : decode code 1047 = .ok (.iadd, 1) := by decide +kernel
theorem dL_law_1048 : decode code 1048 = .ok (.iaload, 1) := by decide +kernel
theorem dL_law_1049 : decode code 1049 = .ok (.invokevirtual 112, 3) := by decide +kernel
theorem dL_law_1052 : decode code 1052 = .ok (.aload_n 2, 1) := by decide +kernel
theorem dL_law_1053 : decode code 1053 = .ok (.aload_n 0, 1) := by decide +kernel
theorem dL_law_1054 : decode code 1054 = .ok (.iload 4, 2) := by decide +kernel
theorem dL_law_1056 : decode code 1056 = .ok (.iconst 1, 1) := by decide +kernel
theorem dL_law_1057 : decode code 1057 = .ok (.iadd, 1) := by decide +kernel
theorem dL_law_1058 : decode code 1058 = .ok (.iaload, 1) := by decide +kernel
theorem dL_law_1059 : decode code 1059 = .ok (.invokevirtual 116, 3) := by decide +kernel
theorem dL_law_1062 : decode code 1062 = .ok (.if_icmp .eq 5, 3) := by decide +kernel
theorem dL_law_1065 : decode code 1065 = .ok (.iconst 0, 1) := by decide +kernel
theorem dL_law_1066 : decode code 1066 = .ok (.ireturn, 1) := by decide +kernel
theorem dL_law_1067 : decode code 1067 = .ok (.iinc 4 8, 3) := by decide +kernel
theorem dL_law_1070 : decode code 1070 = .ok (.goto (-1047), 3) := by decide +kernel
theorem dL_law_1073 : decode code 1073 = .ok (.iconst 1, 1) := by decide +kernel
theorem dL_law_1074 : decode code 1074 = .ok (.ireturn, 1) := by decide +kernel
theorem w_1_0 : (Jvm.Cond.initialized "GuaranteeBookLaw") ∈ WSall := ws_in (tb1 (List.mem_of_getElem? (i := 0) rfl)) (by decide +kernel)
theorem w_1_90 : (Jvm.Cond.methodLink "GuaranteeBookLaw" (61 : Nat) ({ cls := "GuaranteeBook", name := "first", desc := "(I)Z" } : Jvm.MethodName)) ∈ WSall := ws_in (tb1 (List.mem_of_getElem? (i := 90) rfl)) (by decide +kernel)
theorem w_1_91 : (Jvm.Cond.instanceMethod ({ cls := "GuaranteeBook", name := "first", desc := "(I)Z" } : Jvm.MethodName)) ∈ WSall := ws_in (tb1 (List.mem_of_getElem? (i := 91) rfl)) (by decide +kernel)
theorem w_1_92 : (Jvm.Cond.selects "GuaranteeBook" ({ cls := "GuaranteeBook", name := "first", desc := "(I)Z" } : Jvm.MethodName) ({ cls := "GuaranteeBook", name := "first", desc := "(I)Z" } : Jvm.MethodName)) ∈ WSall := ws_in (tb1 (List.mem_of_getElem? (i := 92) rfl)) (by decide +kernel)
theorem w_1_93 : (Jvm.Cond.code ({ cls := "GuaranteeBook", name := "first", desc := "(I)Z" } : Jvm.MethodName) prog_1_method_3_code (3 : Nat) (Option.some Jvm.ClassFile.FieldType.boolean)) ∈ WSall := ws_in (tb1 (List.mem_of_getElem? (i := 93) rfl)) (by decide +kernel)
theorem w_1_102 : (Jvm.Cond.methodLink "GuaranteeBookLaw" (81 : Nat) ({ cls := "GuaranteeBook", name := "close", desc := "(I)Z" } : Jvm.MethodName)) ∈ WSall := ws_in (tb1 (List.mem_of_getElem? (i := 102) rfl)) (by decide +kernel)
theorem w_1_103 : (Jvm.Cond.instanceMethod ({ cls := "GuaranteeBook", name := "close", desc := "(I)Z" } : Jvm.MethodName)) ∈ WSall := ws_in (tb1 (List.mem_of_getElem? (i := 103) rfl)) (by decide +kernel)
theorem w_1_104 : (Jvm.Cond.selects "GuaranteeBook" ({ cls := "GuaranteeBook", name := "close", desc := "(I)Z" } : Jvm.MethodName) ({ cls := "GuaranteeBook", name := "close", desc := "(I)Z" } : Jvm.MethodName)) ∈ WSall := ws_in (tb1 (List.mem_of_getElem? (i := 104) rfl)) (by decide +kernel)
theorem w_1_105 : (Jvm.Cond.code ({ cls := "GuaranteeBook", name := "close", desc := "(I)Z" } : Jvm.MethodName) prog_1_method_8_code (3 : Nat) (Option.some Jvm.ClassFile.FieldType.boolean)) ∈ WSall := ws_in (tb1 (List.mem_of_getElem? (i := 105) rfl)) (by decide +kernel)
theorem w_1_123 : (Jvm.Cond.methodLink "GuaranteeBookLaw" (85 : Nat) ({ cls := "GuaranteeBook", name := "fails", desc := "(IZ)Z" } : Jvm.MethodName)) ∈ WSall := ws_in (tb1 (List.mem_of_getElem? (i := 123) rfl)) (by decide +kernel)
theorem w_1_124 : (Jvm.Cond.instanceMethod ({ cls := "GuaranteeBook", name := "fails", desc := "(IZ)Z" } : Jvm.MethodName)) ∈ WSall := ws_in (tb1 (List.mem_of_getElem? (i := 124) rfl)) (by decide +kernel)
theorem w_1_125 : (Jvm.Cond.selects "GuaranteeBook" ({ cls := "GuaranteeBook", name := "fails", desc := "(IZ)Z" } : Jvm.MethodName) ({ cls := "GuaranteeBook", name := "fails", desc := "(IZ)Z" } : Jvm.MethodName)) ∈ WSall := ws_in (tb1 (List.mem_of_getElem? (i := 125) rfl)) (by decide +kernel)
theorem w_1_126 : (Jvm.Cond.code ({ cls := "GuaranteeBook", name := "fails", desc := "(IZ)Z" } : Jvm.MethodName) prog_1_method_9_code (3 : Nat) (Option.some Jvm.ClassFile.FieldType.boolean)) ∈ WSall := ws_in (tb1 (List.mem_of_getElem? (i := 126) rfl)) (by decide +kernel)
theorem w_1_130 : (Jvm.Cond.methodLink "GuaranteeBookLaw" (90 : Nat) ({ cls := "GuaranteeBook", name := "tick", desc := "(I)Z" } : Jvm.MethodName)) ∈ WSall := ws_in (tb1 (List.mem_of_getElem? (i := 130) rfl)) (by decide +kernel)
theorem w_1_131 : (Jvm.Cond.instanceMethod ({ cls := "GuaranteeBook", name := "tick", desc := "(I)Z" } : Jvm.MethodName)) ∈ WSall := ws_in (tb1 (List.mem_of_getElem? (i := 131) rfl)) (by decide +kernel)
theorem w_1_132 : (Jvm.Cond.selects "GuaranteeBook" ({ cls := "GuaranteeBook", name := "tick", desc := "(I)Z" } : Jvm.MethodName) ({ cls := "GuaranteeBook", name := "tick", desc := "(I)Z" } : Jvm.MethodName)) ∈ WSall := ws_in (tb1 (List.mem_of_getElem? (i := 132) rfl)) (by decide +kernel)
theorem w_1_133 : (Jvm.Cond.code ({ cls := "GuaranteeBook", name := "tick", desc := "(I)Z" } : Jvm.MethodName) prog_1_method_10_code (2 : Nat) (Option.some Jvm.ClassFile.FieldType.boolean)) ∈ WSall := ws_in (tb1 (List.mem_of_getElem? (i := 133) rfl)) (by decide +kernel)
theorem w_1_135 : (Jvm.Cond.methodLink "GuaranteeBookLaw" (98 : Nat) ({ cls := "GuaranteeBook", name := "free", desc := "(I)J" } : Jvm.MethodName)) ∈ WSall := ws_in (tb1 (List.mem_of_getElem? (i := 135) rfl)) (by decide +kernel)
theorem w_1_136 : (Jvm.Cond.instanceMethod ({ cls := "GuaranteeBook", name := "free", desc := "(I)J" } : Jvm.MethodName)) ∈ WSall := ws_in (tb1 (List.mem_of_getElem? (i := 136) rfl)) (by decide +kernel)
theorem w_1_137 : (Jvm.Cond.selects "GuaranteeBook" ({ cls := "GuaranteeBook", name := "free", desc := "(I)J" } : Jvm.MethodName) ({ cls := "GuaranteeBook", name := "free", desc := "(I)J" } : Jvm.MethodName)) ∈ WSall := ws_in (tb1 (List.mem_of_getElem? (i := 137) rfl)) (by decide +kernel)
theorem w_1_138 : (Jvm.Cond.code ({ cls := "GuaranteeBook", name := "free", desc := "(I)J" } : Jvm.MethodName) prog_1_method_12_code (2 : Nat) (Option.some Jvm.ClassFile.FieldType.long)) ∈ WSall := ws_in (tb1 (List.mem_of_getElem? (i := 138) rfl)) (by decide +kernel)
theorem w_1_167 : (Jvm.Cond.methodLink "GuaranteeBookLaw" (102 : Nat) ({ cls := "GuaranteeBook", name := "list", desc := "(II)I" } : Jvm.MethodName)) ∈ WSall := ws_in (tb1 (List.mem_of_getElem? (i := 167) rfl)) (by decide +kernel)
theorem w_1_168 : (Jvm.Cond.instanceMethod ({ cls := "GuaranteeBook", name := "list", desc := "(II)I" } : Jvm.MethodName)) ∈ WSall := ws_in (tb1 (List.mem_of_getElem? (i := 168) rfl)) (by decide +kernel)
theorem w_1_169 : (Jvm.Cond.selects "GuaranteeBook" ({ cls := "GuaranteeBook", name := "list", desc := "(II)I" } : Jvm.MethodName) ({ cls := "GuaranteeBook", name := "list", desc := "(II)I" } : Jvm.MethodName)) ∈ WSall := ws_in (tb1 (List.mem_of_getElem? (i := 169) rfl)) (by decide +kernel)
theorem w_1_170 : (Jvm.Cond.code ({ cls := "GuaranteeBook", name := "list", desc := "(II)I" } : Jvm.MethodName) prog_1_method_13_code (5 : Nat) (Option.some Jvm.ClassFile.FieldType.int)) ∈ WSall := ws_in (tb1 (List.mem_of_getElem? (i := 170) rfl)) (by decide +kernel)
theorem w_1_171 : (Jvm.Cond.methodLink "GuaranteeBookLaw" (112 : Nat) ({ cls := "GuaranteeBook", name := "count", desc := "(I)I" } : Jvm.MethodName)) ∈ WSall := ws_in (tb1 (List.mem_of_getElem? (i := 171) rfl)) (by decide +kernel)
theorem w_1_172 : (Jvm.Cond.instanceMethod ({ cls := "GuaranteeBook", name := "count", desc := "(I)I" } : Jvm.MethodName)) ∈ WSall := ws_in (tb1 (List.mem_of_getElem? (i := 172) rfl)) (by decide +kernel)
theorem w_1_173 : (Jvm.Cond.selects "GuaranteeBook" ({ cls := "GuaranteeBook", name := "count", desc := "(I)I" } : Jvm.MethodName) ({ cls := "GuaranteeBook", name := "count", desc := "(I)I" } : Jvm.MethodName)) ∈ WSall := ws_in (tb1 (List.mem_of_getElem? (i := 173) rfl)) (by decide +kernel)
theorem w_1_174 : (Jvm.Cond.code ({ cls := "GuaranteeBook", name := "count", desc := "(I)I" } : Jvm.MethodName) prog_1_method_16_code (2 : Nat) (Option.some Jvm.ClassFile.FieldType.int)) ∈ WSall := ws_in (tb1 (List.mem_of_getElem? (i := 174) rfl)) (by decide +kernel)
theorem w_1_175 : (Jvm.Cond.methodLink "GuaranteeBookLaw" (51 : Nat) ({ cls := "GuaranteeBookLaw", name := "guarantee", desc := "(LGuaranteeBook;IJIIZI[J)I" } : Jvm.MethodName)) ∈ WSall := ws_in (tb1 (List.mem_of_getElem? (i := 175) rfl)) (by decide +kernel)
theorem w_1_176 : (Jvm.Cond.static ({ cls := "GuaranteeBookLaw", name := "guarantee", desc := "(LGuaranteeBook;IJIIZI[J)I" } : Jvm.MethodName)) ∈ WSall := ws_in (tb1 (List.mem_of_getElem? (i := 176) rfl)) (by decide +kernel)
theorem w_1_177 : (Jvm.Cond.codeWith ({ cls := "GuaranteeBookLaw", name := "guarantee", desc := "(LGuaranteeBook;IJIIZI[J)I" } : Jvm.MethodName) method_3_code (10 : Nat) (Option.some Jvm.ClassFile.FieldType.int) [((0 : Nat), (19 : Nat), (22 : Nat), (13 : Nat)), ((0 : Nat), (19 : Nat), (26 : Nat), (15 : Nat))]) ∈ WSall := ws_in (tb1 (List.mem_of_getElem? (i := 177) rfl)) (by decide +kernel)
theorem w_2_119 : (Jvm.Cond.methodLink "GuaranteeBookLaw" (66 : Nat) ({ cls := "GuaranteeBookLaw", name := "reserve", desc := "(LGuaranteeBook;IIJ[J)I" } : Jvm.MethodName)) ∈ WSall := ws_in (tb2 (List.mem_of_getElem? (i := 119) rfl)) (by decide +kernel)
theorem w_2_120 : (Jvm.Cond.static ({ cls := "GuaranteeBookLaw", name := "reserve", desc := "(LGuaranteeBook;IIJ[J)I" } : Jvm.MethodName)) ∈ WSall := ws_in (tb2 (List.mem_of_getElem? (i := 120) rfl)) (by decide +kernel)
theorem w_2_121 : (Jvm.Cond.codeWith ({ cls := "GuaranteeBookLaw", name := "reserve", desc := "(LGuaranteeBook;IIJ[J)I" } : Jvm.MethodName) method_4_code (7 : Nat) (Option.some Jvm.ClassFile.FieldType.int) [((0 : Nat), (12 : Nat), (15 : Nat), (13 : Nat)), ((0 : Nat), (12 : Nat), (19 : Nat), (15 : Nat))]) ∈ WSall := ws_in (tb2 (List.mem_of_getElem? (i := 121) rfl)) (by decide +kernel)
theorem w_2_161 : (Jvm.Cond.methodLink "GuaranteeBookLaw" (70 : Nat) ({ cls := "GuaranteeBookLaw", name := "end", desc := "(LGuaranteeBook;II[J)I" } : Jvm.MethodName)) ∈ WSall := ws_in (tb2 (List.mem_of_getElem? (i := 161) rfl)) (by decide +kernel)
theorem w_2_162 : (Jvm.Cond.static ({ cls := "GuaranteeBookLaw", name := "end", desc := "(LGuaranteeBook;II[J)I" } : Jvm.MethodName)) ∈ WSall := ws_in (tb2 (List.mem_of_getElem? (i := 162) rfl)) (by decide +kernel)
theorem w_2_163 : (Jvm.Cond.codeWith ({ cls := "GuaranteeBookLaw", name := "end", desc := "(LGuaranteeBook;II[J)I" } : Jvm.MethodName) method_5_code (5 : Nat) (Option.some Jvm.ClassFile.FieldType.int) [((0 : Nat), (10 : Nat), (13 : Nat), (13 : Nat))]) ∈ WSall := ws_in (tb2 (List.mem_of_getElem? (i := 163) rfl)) (by decide +kernel)
theorem w_2_181 : (Jvm.Cond.methodLink "GuaranteeBookLaw" (74 : Nat) ({ cls := "GuaranteeBookLaw", name := "reduce", desc := "(LGuaranteeBook;IJ[J)I" } : Jvm.MethodName)) ∈ WSall := ws_in (tb2 (List.mem_of_getElem? (i := 181) rfl)) (by decide +kernel)
theorem w_2_182 : (Jvm.Cond.static ({ cls := "GuaranteeBookLaw", name := "reduce", desc := "(LGuaranteeBook;IJ[J)I" } : Jvm.MethodName)) ∈ WSall := ws_in (tb2 (List.mem_of_getElem? (i := 182) rfl)) (by decide +kernel)
theorem w_2_183 : (Jvm.Cond.codeWith ({ cls := "GuaranteeBookLaw", name := "reduce", desc := "(LGuaranteeBook;IJ[J)I" } : Jvm.MethodName) method_6_code (6 : Nat) (Option.some Jvm.ClassFile.FieldType.int) [((0 : Nat), (10 : Nat), (13 : Nat), (13 : Nat))]) ∈ WSall := ws_in (tb2 (List.mem_of_getElem? (i := 183) rfl)) (by decide +kernel)
theorem w_2_198 : (Jvm.Cond.methodLink "GuaranteeBookLaw" (78 : Nat) ({ cls := "GuaranteeBookLaw", name := "claim", desc := "(LGuaranteeBook;IJ[J)I" } : Jvm.MethodName)) ∈ WSall := ws_in (tb2 (List.mem_of_getElem? (i := 198) rfl)) (by decide +kernel)
theorem w_2_199 : (Jvm.Cond.static ({ cls := "GuaranteeBookLaw", name := "claim", desc := "(LGuaranteeBook;IJ[J)I" } : Jvm.MethodName)) ∈ WSall := ws_in (tb2 (List.mem_of_getElem? (i := 199) rfl)) (by decide +kernel)
theorem w_2_200 : (Jvm.Cond.codeWith ({ cls := "GuaranteeBookLaw", name := "claim", desc := "(LGuaranteeBook;IJ[J)I" } : Jvm.MethodName) method_7_code (6 : Nat) (Option.some Jvm.ClassFile.FieldType.int) [((0 : Nat), (10 : Nat), (13 : Nat), (13 : Nat))]) ∈ WSall := ws_in (tb2 (List.mem_of_getElem? (i := 200) rfl)) (by decide +kernel)
theorem w_2_215 : (Jvm.Cond.methodLink "GuaranteeBookLaw" (94 : Nat) ({ cls := "GuaranteeBookLaw", name := "interest", desc := "(LGuaranteeBook;I[J)I" } : Jvm.MethodName)) ∈ WSall := ws_in (tb2 (List.mem_of_getElem? (i := 215) rfl)) (by decide +kernel)
theorem w_2_216 : (Jvm.Cond.static ({ cls := "GuaranteeBookLaw", name := "interest", desc := "(LGuaranteeBook;I[J)I" } : Jvm.MethodName)) ∈ WSall := ws_in (tb2 (List.mem_of_getElem? (i := 216) rfl)) (by decide +kernel)
theorem w_2_217 : (Jvm.Cond.codeWith ({ cls := "GuaranteeBookLaw", name := "interest", desc := "(LGuaranteeBook;I[J)I" } : Jvm.MethodName) method_8_code (4 : Nat) (Option.some Jvm.ClassFile.FieldType.int) [((0 : Nat), (8 : Nat), (11 : Nat), (13 : Nat))]) ∈ WSall := ws_in (tb2 (List.mem_of_getElem? (i := 217) rfl)) (by decide +kernel)
theorem w_2_224 : (Jvm.Cond.methodLink "GuaranteeBookLaw" (106 : Nat) ({ cls := "GuaranteeBookLaw", name := "look", desc := "(LGuaranteeBook;II[J)I" } : Jvm.MethodName)) ∈ WSall := ws_in (tb2 (List.mem_of_getElem? (i := 224) rfl)) (by decide +kernel)
theorem w_2_225 : (Jvm.Cond.static ({ cls := "GuaranteeBookLaw", name := "look", desc := "(LGuaranteeBook;II[J)I" } : Jvm.MethodName)) ∈ WSall := ws_in (tb2 (List.mem_of_getElem? (i := 225) rfl)) (by decide +kernel)
theorem w_2_226 : (Jvm.Cond.codeWith ({ cls := "GuaranteeBookLaw", name := "look", desc := "(LGuaranteeBook;II[J)I" } : Jvm.MethodName) method_9_code (5 : Nat) (Option.some Jvm.ClassFile.FieldType.int) [((0 : Nat), (9 : Nat), (12 : Nat), (40 : Nat))]) ∈ WSall := ws_in (tb2 (List.mem_of_getElem? (i := 226) rfl)) (by decide +kernel)
theorem w_3_13 : (Jvm.Cond.methodLink "GuaranteeBookLaw" (109 : Nat) ({ cls := "GuaranteeBookLaw", name := "of", desc := "(LGuaranteeBook;II[J)I" } : Jvm.MethodName)) ∈ WSall := ws_in (tb3 (List.mem_of_getElem? (i := 13) rfl)) (by decide +kernel)
theorem w_3_14 : (Jvm.Cond.static ({ cls := "GuaranteeBookLaw", name := "of", desc := "(LGuaranteeBook;II[J)I" } : Jvm.MethodName)) ∈ WSall := ws_in (tb3 (List.mem_of_getElem? (i := 14) rfl)) (by decide +kernel)
theorem w_3_15 : (Jvm.Cond.codeWith ({ cls := "GuaranteeBookLaw", name := "of", desc := "(LGuaranteeBook;II[J)I" } : Jvm.MethodName) method_10_code (5 : Nat) (Option.some Jvm.ClassFile.FieldType.int) [((0 : Nat), (9 : Nat), (12 : Nat), (40 : Nat))]) ∈ WSall := ws_in (tb3 (List.mem_of_getElem? (i := 15) rfl)) (by decide +kernel)
theorem w_3_109 : (Jvm.Cond.methodLink "GuaranteeBookLaw" (57 : Nat) ({ cls := "GuaranteeBookModel", name := "thrown", desc := "()I" } : Jvm.MethodName)) ∈ WSall := ws_in (tb3 (List.mem_of_getElem? (i := 109) rfl)) (by decide +kernel)
theorem w_3_110 : (Jvm.Cond.instanceMethod ({ cls := "GuaranteeBookModel", name := "thrown", desc := "()I" } : Jvm.MethodName)) ∈ WSall := ws_in (tb3 (List.mem_of_getElem? (i := 110) rfl)) (by decide +kernel)
theorem w_3_111 : (Jvm.Cond.selects "GuaranteeBookModel" ({ cls := "GuaranteeBookModel", name := "thrown", desc := "()I" } : Jvm.MethodName) ({ cls := "GuaranteeBookModel", name := "thrown", desc := "()I" } : Jvm.MethodName)) ∈ WSall := ws_in (tb3 (List.mem_of_getElem? (i := 111) rfl)) (by decide +kernel)
theorem w_3_112 : (Jvm.Cond.code ({ cls := "GuaranteeBookModel", name := "thrown", desc := "()I" } : Jvm.MethodName) prog_7_method_2_code (1 : Nat) (Option.some Jvm.ClassFile.FieldType.int)) ∈ WSall := ws_in (tb3 (List.mem_of_getElem? (i := 112) rfl)) (by decide +kernel)
theorem w_3_113 : (Jvm.Cond.methodLink "GuaranteeBookLaw" (56 : Nat) ({ cls := "GuaranteeBookModel", name := "guarantee", desc := "(IJIIZI)I" } : Jvm.MethodName)) ∈ WSall := ws_in (tb3 (List.mem_of_getElem? (i := 113) rfl)) (by decide +kernel)
theorem w_3_114 : (Jvm.Cond.instanceMethod ({ cls := "GuaranteeBookModel", name := "guarantee", desc := "(IJIIZI)I" } : Jvm.MethodName)) ∈ WSall := ws_in (tb3 (List.mem_of_getElem? (i := 114) rfl)) (by decide +kernel)
theorem w_3_115 : (Jvm.Cond.selects "GuaranteeBookModel" ({ cls := "GuaranteeBookModel", name := "guarantee", desc := "(IJIIZI)I" } : Jvm.MethodName) ({ cls := "GuaranteeBookModel", name := "guarantee", desc := "(IJIIZI)I" } : Jvm.MethodName)) ∈ WSall := ws_in (tb3 (List.mem_of_getElem? (i := 115) rfl)) (by decide +kernel)
theorem w_3_116 : (Jvm.Cond.code ({ cls := "GuaranteeBookModel", name := "guarantee", desc := "(IJIIZI)I" } : Jvm.MethodName) prog_7_method_8_code (9 : Nat) (Option.some Jvm.ClassFile.FieldType.int)) ∈ WSall := ws_in (tb3 (List.mem_of_getElem? (i := 116) rfl)) (by decide +kernel)
theorem w_3_130 : (Jvm.Cond.methodLink "GuaranteeBookLaw" (105 : Nat) ({ cls := "GuaranteeBookModel", name := "list", desc := "(II)I" } : Jvm.MethodName)) ∈ WSall := ws_in (tb3 (List.mem_of_getElem? (i := 130) rfl)) (by decide +kernel)
theorem w_3_131 : (Jvm.Cond.instanceMethod ({ cls := "GuaranteeBookModel", name := "list", desc := "(II)I" } : Jvm.MethodName)) ∈ WSall := ws_in (tb3 (List.mem_of_getElem? (i := 131) rfl)) (by decide +kernel)
theorem w_3_132 : (Jvm.Cond.selects "GuaranteeBookModel" ({ cls := "GuaranteeBookModel", name := "list", desc := "(II)I" } : Jvm.MethodName) ({ cls := "GuaranteeBookModel", name := "list", desc := "(II)I" } : Jvm.MethodName)) ∈ WSall := ws_in (tb3 (List.mem_of_getElem? (i := 132) rfl)) (by decide +kernel)
theorem w_3_133 : (Jvm.Cond.code ({ cls := "GuaranteeBookModel", name := "list", desc := "(II)I" } : Jvm.MethodName) prog_7_method_9_code (5 : Nat) (Option.some Jvm.ClassFile.FieldType.int)) ∈ WSall := ws_in (tb3 (List.mem_of_getElem? (i := 133) rfl)) (by decide +kernel)
theorem w_3_134 : (Jvm.Cond.methodLink "GuaranteeBookLaw" (65 : Nat) ({ cls := "GuaranteeBookModel", name := "first", desc := "(I)Z" } : Jvm.MethodName)) ∈ WSall := ws_in (tb3 (List.mem_of_getElem? (i := 134) rfl)) (by decide +kernel)
theorem w_3_135 : (Jvm.Cond.instanceMethod ({ cls := "GuaranteeBookModel", name := "first", desc := "(I)Z" } : Jvm.MethodName)) ∈ WSall := ws_in (tb3 (List.mem_of_getElem? (i := 135) rfl)) (by decide +kernel)
theorem w_3_136 : (Jvm.Cond.selects "GuaranteeBookModel" ({ cls := "GuaranteeBookModel", name := "first", desc := "(I)Z" } : Jvm.MethodName) ({ cls := "GuaranteeBookModel", name := "first", desc := "(I)Z" } : Jvm.MethodName)) ∈ WSall := ws_in (tb3 (List.mem_of_getElem? (i := 136) rfl)) (by decide +kernel)
theorem w_3_137 : (Jvm.Cond.code ({ cls := "GuaranteeBookModel", name := "first", desc := "(I)Z" } : Jvm.MethodName) prog_7_method_10_code (5 : Nat) (Option.some Jvm.ClassFile.FieldType.boolean)) ∈ WSall := ws_in (tb3 (List.mem_of_getElem? (i := 137) rfl)) (by decide +kernel)
theorem w_3_142 : (Jvm.Cond.methodLink "GuaranteeBookLaw" (101 : Nat) ({ cls := "GuaranteeBookModel", name := "free", desc := "(I)J" } : Jvm.MethodName)) ∈ WSall := ws_in (tb3 (List.mem_of_getElem? (i := 142) rfl)) (by decide +kernel)
theorem w_3_143 : (Jvm.Cond.instanceMethod ({ cls := "GuaranteeBookModel", name := "free", desc := "(I)J" } : Jvm.MethodName)) ∈ WSall := ws_in (tb3 (List.mem_of_getElem? (i := 143) rfl)) (by decide +kernel)
theorem w_3_144 : (Jvm.Cond.selects "GuaranteeBookModel" ({ cls := "GuaranteeBookModel", name := "free", desc := "(I)J" } : Jvm.MethodName) ({ cls := "GuaranteeBookModel", name := "free", desc := "(I)J" } : Jvm.MethodName)) ∈ WSall := ws_in (tb3 (List.mem_of_getElem? (i := 144) rfl)) (by decide +kernel)
theorem w_3_145 : (Jvm.Cond.code ({ cls := "GuaranteeBookModel", name := "free", desc := "(I)J" } : Jvm.MethodName) prog_7_method_17_code (2 : Nat) (Option.some Jvm.ClassFile.FieldType.long)) ∈ WSall := ws_in (tb3 (List.mem_of_getElem? (i := 145) rfl)) (by decide +kernel)
theorem w_3_172 : (Jvm.Cond.methodLink "GuaranteeBookLaw" (69 : Nat) ({ cls := "GuaranteeBookModel", name := "reserve", desc := "(IIJ)I" } : Jvm.MethodName)) ∈ WSall := ws_in (tb3 (List.mem_of_getElem? (i := 172) rfl)) (by decide +kernel)
theorem w_3_173 : (Jvm.Cond.instanceMethod ({ cls := "GuaranteeBookModel", name := "reserve", desc := "(IIJ)I" } : Jvm.MethodName)) ∈ WSall := ws_in (tb3 (List.mem_of_getElem? (i := 173) rfl)) (by decide +kernel)
theorem w_3_174 : (Jvm.Cond.selects "GuaranteeBookModel" ({ cls := "GuaranteeBookModel", name := "reserve", desc := "(IIJ)I" } : Jvm.MethodName) ({ cls := "GuaranteeBookModel", name := "reserve", desc := "(IIJ)I" } : Jvm.MethodName)) ∈ WSall := ws_in (tb3 (List.mem_of_getElem? (i := 174) rfl)) (by decide +kernel)
theorem w_3_175 : (Jvm.Cond.code ({ cls := "GuaranteeBookModel", name := "reserve", desc := "(IIJ)I" } : Jvm.MethodName) prog_7_method_19_code (5 : Nat) (Option.some Jvm.ClassFile.FieldType.int)) ∈ WSall := ws_in (tb3 (List.mem_of_getElem? (i := 175) rfl)) (by decide +kernel)
theorem w_3_182 : (Jvm.Cond.methodLink "GuaranteeBookLaw" (73 : Nat) ({ cls := "GuaranteeBookModel", name := "end", desc := "(II)I" } : Jvm.MethodName)) ∈ WSall := ws_in (tb3 (List.mem_of_getElem? (i := 182) rfl)) (by decide +kernel)
theorem w_3_183 : (Jvm.Cond.instanceMethod ({ cls := "GuaranteeBookModel", name := "end", desc := "(II)I" } : Jvm.MethodName)) ∈ WSall := ws_in (tb3 (List.mem_of_getElem? (i := 183) rfl)) (by decide +kernel)
theorem w_3_184 : (Jvm.Cond.selects "GuaranteeBookModel" ({ cls := "GuaranteeBookModel", name := "end", desc := "(II)I" } : Jvm.MethodName) ({ cls := "GuaranteeBookModel", name := "end", desc := "(II)I" } : Jvm.MethodName)) ∈ WSall := ws_in (tb3 (List.mem_of_getElem? (i := 184) rfl)) (by decide +kernel)
theorem w_3_185 : (Jvm.Cond.code ({ cls := "GuaranteeBookModel", name := "end", desc := "(II)I" } : Jvm.MethodName) prog_7_method_21_code (3 : Nat) (Option.some Jvm.ClassFile.FieldType.int)) ∈ WSall := ws_in (tb3 (List.mem_of_getElem? (i := 185) rfl)) (by decide +kernel)
theorem w_3_190 : (Jvm.Cond.methodLink "GuaranteeBookLaw" (77 : Nat) ({ cls := "GuaranteeBookModel", name := "reduce", desc := "(IJ)J" } : Jvm.MethodName)) ∈ WSall := ws_in (tb3 (List.mem_of_getElem? (i := 190) rfl)) (by decide +kernel)
theorem w_3_191 : (Jvm.Cond.instanceMethod ({ cls := "GuaranteeBookModel", name := "reduce", desc := "(IJ)J" } : Jvm.MethodName)) ∈ WSall := ws_in (tb3 (List.mem_of_getElem? (i := 191) rfl)) (by decide +kernel)
theorem w_3_192 : (Jvm.Cond.selects "GuaranteeBookModel" ({ cls := "GuaranteeBookModel", name := "reduce", desc := "(IJ)J" } : Jvm.MethodName) ({ cls := "GuaranteeBookModel", name := "reduce", desc := "(IJ)J" } : Jvm.MethodName)) ∈ WSall := ws_in (tb3 (List.mem_of_getElem? (i := 192) rfl)) (by decide +kernel)
theorem w_3_193 : (Jvm.Cond.code ({ cls := "GuaranteeBookModel", name := "reduce", desc := "(IJ)J" } : Jvm.MethodName) prog_7_method_22_code (9 : Nat) (Option.some Jvm.ClassFile.FieldType.long)) ∈ WSall := ws_in (tb3 (List.mem_of_getElem? (i := 193) rfl)) (by decide +kernel)
theorem w_3_198 : (Jvm.Cond.methodLink "GuaranteeBookLaw" (80 : Nat) ({ cls := "GuaranteeBookModel", name := "claim", desc := "(IJ)J" } : Jvm.MethodName)) ∈ WSall := ws_in (tb3 (List.mem_of_getElem? (i := 198) rfl)) (by decide +kernel)
theorem w_3_199 : (Jvm.Cond.instanceMethod ({ cls := "GuaranteeBookModel", name := "claim", desc := "(IJ)J" } : Jvm.MethodName)) ∈ WSall := ws_in (tb3 (List.mem_of_getElem? (i := 199) rfl)) (by decide +kernel)
theorem w_3_200 : (Jvm.Cond.selects "GuaranteeBookModel" ({ cls := "GuaranteeBookModel", name := "claim", desc := "(IJ)J" } : Jvm.MethodName) ({ cls := "GuaranteeBookModel", name := "claim", desc := "(IJ)J" } : Jvm.MethodName)) ∈ WSall := ws_in (tb3 (List.mem_of_getElem? (i := 200) rfl)) (by decide +kernel)
theorem w_3_201 : (Jvm.Cond.code ({ cls := "GuaranteeBookModel", name := "claim", desc := "(IJ)J" } : Jvm.MethodName) prog_7_method_25_code (12 : Nat) (Option.some Jvm.ClassFile.FieldType.long)) ∈ WSall := ws_in (tb3 (List.mem_of_getElem? (i := 201) rfl)) (by decide +kernel)
theorem w_3_211 : (Jvm.Cond.methodLink "GuaranteeBookLaw" (84 : Nat) ({ cls := "GuaranteeBookModel", name := "close", desc := "(I)Z" } : Jvm.MethodName)) ∈ WSall := ws_in (tb3 (List.mem_of_getElem? (i := 211) rfl)) (by decide +kernel)
theorem w_3_212 : (Jvm.Cond.instanceMethod ({ cls := "GuaranteeBookModel", name := "close", desc := "(I)Z" } : Jvm.MethodName)) ∈ WSall := ws_in (tb3 (List.mem_of_getElem? (i := 212) rfl)) (by decide +kernel)
theorem w_3_213 : (Jvm.Cond.selects "GuaranteeBookModel" ({ cls := "GuaranteeBookModel", name := "close", desc := "(I)Z" } : Jvm.MethodName) ({ cls := "GuaranteeBookModel", name := "close", desc := "(I)Z" } : Jvm.MethodName)) ∈ WSall := ws_in (tb3 (List.mem_of_getElem? (i := 213) rfl)) (by decide +kernel)
theorem w_3_214 : (Jvm.Cond.code ({ cls := "GuaranteeBookModel", name := "close", desc := "(I)Z" } : Jvm.MethodName) prog_7_method_26_code (2 : Nat) (Option.some Jvm.ClassFile.FieldType.boolean)) ∈ WSall := ws_in (tb3 (List.mem_of_getElem? (i := 214) rfl)) (by decide +kernel)
theorem w_3_215 : (Jvm.Cond.methodLink "GuaranteeBookLaw" (89 : Nat) ({ cls := "GuaranteeBookModel", name := "fails", desc := "(IZ)Z" } : Jvm.MethodName)) ∈ WSall := ws_in (tb3 (List.mem_of_getElem? (i := 215) rfl)) (by decide +kernel)
theorem w_3_216 : (Jvm.Cond.instanceMethod ({ cls := "GuaranteeBookModel", name := "fails", desc := "(IZ)Z" } : Jvm.MethodName)) ∈ WSall := ws_in (tb3 (List.mem_of_getElem? (i := 216) rfl)) (by decide +kernel)
theorem w_3_217 : (Jvm.Cond.selects "GuaranteeBookModel" ({ cls := "GuaranteeBookModel", name := "fails", desc := "(IZ)Z" } : Jvm.MethodName) ({ cls := "GuaranteeBookModel", name := "fails", desc := "(IZ)Z" } : Jvm.MethodName)) ∈ WSall := ws_in (tb3 (List.mem_of_getElem? (i := 217) rfl)) (by decide +kernel)
theorem w_3_218 : (Jvm.Cond.code ({ cls := "GuaranteeBookModel", name := "fails", desc := "(IZ)Z" } : Jvm.MethodName) prog_7_method_27_code (3 : Nat) (Option.some Jvm.ClassFile.FieldType.boolean)) ∈ WSall := ws_in (tb3 (List.mem_of_getElem? (i := 218) rfl)) (by decide +kernel)
theorem w_3_219 : (Jvm.Cond.methodLink "GuaranteeBookLaw" (93 : Nat) ({ cls := "GuaranteeBookModel", name := "tick", desc := "(I)Z" } : Jvm.MethodName)) ∈ WSall := ws_in (tb3 (List.mem_of_getElem? (i := 219) rfl)) (by decide +kernel)
theorem w_3_220 : (Jvm.Cond.instanceMethod ({ cls := "GuaranteeBookModel", name := "tick", desc := "(I)Z" } : Jvm.MethodName)) ∈ WSall := ws_in (tb3 (List.mem_of_getElem? (i := 220) rfl)) (by decide +kernel)
theorem w_3_221 : (Jvm.Cond.selects "GuaranteeBookModel" ({ cls := "GuaranteeBookModel", name := "tick", desc := "(I)Z" } : Jvm.MethodName) ({ cls := "GuaranteeBookModel", name := "tick", desc := "(I)Z" } : Jvm.MethodName)) ∈ WSall := ws_in (tb3 (List.mem_of_getElem? (i := 221) rfl)) (by decide +kernel)
theorem w_3_222 : (Jvm.Cond.code ({ cls := "GuaranteeBookModel", name := "tick", desc := "(I)Z" } : Jvm.MethodName) prog_7_method_28_code (2 : Nat) (Option.some Jvm.ClassFile.FieldType.boolean)) ∈ WSall := ws_in (tb3 (List.mem_of_getElem? (i := 222) rfl)) (by decide +kernel)
theorem w_3_224 : (Jvm.Cond.methodLink "GuaranteeBookLaw" (97 : Nat) ({ cls := "GuaranteeBookModel", name := "interest", desc := "(I)J" } : Jvm.MethodName)) ∈ WSall := ws_in (tb3 (List.mem_of_getElem? (i := 224) rfl)) (by decide +kernel)
theorem w_3_225 : (Jvm.Cond.instanceMethod ({ cls := "GuaranteeBookModel", name := "interest", desc := "(I)J" } : Jvm.MethodName)) ∈ WSall := ws_in (tb3 (List.mem_of_getElem? (i := 225) rfl)) (by decide +kernel)
theorem w_3_226 : (Jvm.Cond.selects "GuaranteeBookModel" ({ cls := "GuaranteeBookModel", name := "interest", desc := "(I)J" } : Jvm.MethodName) ({ cls := "GuaranteeBookModel", name := "interest", desc := "(I)J" } : Jvm.MethodName)) ∈ WSall := ws_in (tb3 (List.mem_of_getElem? (i := 226) rfl)) (by decide +kernel)
theorem w_3_227 : (Jvm.Cond.code ({ cls := "GuaranteeBookModel", name := "interest", desc := "(I)J" } : Jvm.MethodName) prog_7_method_29_code (2 : Nat) (Option.some Jvm.ClassFile.FieldType.long)) ∈ WSall := ws_in (tb3 (List.mem_of_getElem? (i := 227) rfl)) (by decide +kernel)
theorem w_3_228 : (Jvm.Cond.methodLink "GuaranteeBookLaw" (108 : Nat) ({ cls := "GuaranteeBookModel", name := "look", desc := "(II)J" } : Jvm.MethodName)) ∈ WSall := ws_in (tb3 (List.mem_of_getElem? (i := 228) rfl)) (by decide +kernel)
theorem w_3_229 : (Jvm.Cond.instanceMethod ({ cls := "GuaranteeBookModel", name := "look", desc := "(II)J" } : Jvm.MethodName)) ∈ WSall := ws_in (tb3 (List.mem_of_getElem? (i := 229) rfl)) (by decide +kernel)
theorem w_3_230 : (Jvm.Cond.selects "GuaranteeBookModel" ({ cls := "GuaranteeBookModel", name := "look", desc := "(II)J" } : Jvm.MethodName) ({ cls := "GuaranteeBookModel", name := "look", desc := "(II)J" } : Jvm.MethodName)) ∈ WSall := ws_in (tb3 (List.mem_of_getElem? (i := 230) rfl)) (by decide +kernel)
theorem w_3_231 : (Jvm.Cond.code ({ cls := "GuaranteeBookModel", name := "look", desc := "(II)J" } : Jvm.MethodName) prog_7_method_30_code (5 : Nat) (Option.some Jvm.ClassFile.FieldType.long)) ∈ WSall := ws_in (tb3 (List.mem_of_getElem? (i := 231) rfl)) (by decide +kernel)
theorem w_3_232 : (Jvm.Cond.methodLink "GuaranteeBookLaw" (111 : Nat) ({ cls := "GuaranteeBookModel", name := "of", desc := "(II)J" } : Jvm.MethodName)) ∈ WSall := ws_in (tb3 (List.mem_of_getElem? (i := 232) rfl)) (by decide +kernel)
theorem w_3_233 : (Jvm.Cond.instanceMethod ({ cls := "GuaranteeBookModel", name := "of", desc := "(II)J" } : Jvm.MethodName)) ∈ WSall := ws_in (tb3 (List.mem_of_getElem? (i := 233) rfl)) (by decide +kernel)
theorem w_3_234 : (Jvm.Cond.selects "GuaranteeBookModel" ({ cls := "GuaranteeBookModel", name := "of", desc := "(II)J" } : Jvm.MethodName) ({ cls := "GuaranteeBookModel", name := "of", desc := "(II)J" } : Jvm.MethodName)) ∈ WSall := ws_in (tb3 (List.mem_of_getElem? (i := 234) rfl)) (by decide +kernel)
theorem w_3_235 : (Jvm.Cond.code ({ cls := "GuaranteeBookModel", name := "of", desc := "(II)J" } : Jvm.MethodName) prog_7_method_31_code (5 : Nat) (Option.some Jvm.ClassFile.FieldType.long)) ∈ WSall := ws_in (tb3 (List.mem_of_getElem? (i := 235) rfl)) (by decide +kernel)
theorem w_3_236 : (Jvm.Cond.methodLink "GuaranteeBookLaw" (116 : Nat) ({ cls := "GuaranteeBookModel", name := "count", desc := "(I)I" } : Jvm.MethodName)) ∈ WSall := ws_in (tb3 (List.mem_of_getElem? (i := 236) rfl)) (by decide +kernel)
theorem w_3_237 : (Jvm.Cond.instanceMethod ({ cls := "GuaranteeBookModel", name := "count", desc := "(I)I" } : Jvm.MethodName)) ∈ WSall := ws_in (tb3 (List.mem_of_getElem? (i := 237) rfl)) (by decide +kernel)
theorem w_3_238 : (Jvm.Cond.selects "GuaranteeBookModel" ({ cls := "GuaranteeBookModel", name := "count", desc := "(I)I" } : Jvm.MethodName) ({ cls := "GuaranteeBookModel", name := "count", desc := "(I)I" } : Jvm.MethodName)) ∈ WSall := ws_in (tb3 (List.mem_of_getElem? (i := 238) rfl)) (by decide +kernel)
theorem w_3_239 : (Jvm.Cond.code ({ cls := "GuaranteeBookModel", name := "count", desc := "(I)I" } : Jvm.MethodName) prog_7_method_32_code (4 : Nat) (Option.some Jvm.ClassFile.FieldType.int)) ∈ WSall := ws_in (tb3 (List.mem_of_getElem? (i := 239) rfl)) (by decide +kernel)
theorem w_4_0 : (Jvm.Cond.constantLong "GuaranteeBookLaw" (49 : Nat) (4294967295 : Int64)) ∈ WSall := ws_in (tb4 (List.mem_of_getElem? (i := 0) rfl)) (by decide +kernel)
/-! THE LAW: what it knows, how a call ends -/
def bz (v : Int32) : Int32 := if v = 0 then 0 else 1
theorem bz_or (v : Int32) : bz v = 0 ∨ bz v = 1 := by unfold bz; split <;> simp
def jl (x y : Int32) : Int64 := (x.toInt64 <<< ((32 : Int32).toInt64 &&& 63)) ||| (y.toInt64 &&& 4294967295)
theorem ivn_use {D : va_G} {dA : Nat → ClassId} {sa : Nat → Nat} {lo : Nat} {al : Nat → Nat → Nat} {σ μ : CS} {s U : State} {H : Heap} {locs : List Loc} (hI : Inv D dA lo al σ μ H) (hwd : wd D dA sa lo s) (hnc : ncX s) (hS : va_S (fun q => lo ≤ q) s.heap H locs) (hU : U.heap = H) (hW : s.WarmedH U.vm) : ivN D dA sa lo al σ μ U := ⟨by rw [hU]; exact hI, wd_use hwd hS hU hW, va_Nc.moved hW.alike hnc⟩
def lwC (p : Program) (l : Launch) (s : State) (m : MethodId) (meth : Method) (c : Code) (b L : Nat) (xs : Nat → Int32) (D : va_G) (dA : Nat → ClassId) (sa : Nat → Nat) (lo : Nat) : Prop :=
  p.tables.exec = Jvm.exec ∧ c.code = code ∧ c.maxLocals = 8 ∧ s.vm.findClass RL = some m.cls ∧ (∀ w ∈ WSall, w.before #[Value.ref b] s = true) ∧ va_X b L xs s s.heap ∧ b < s.heap.size ∧ ¬ (fun q => lo ≤ q) b ∧ l.stackTraces = false ∧ wd D dA sa lo s ∧ ncX s
def lwV (b : Nat) (x4 : Int32) (al : Nat → Nat → Nat) : List (Nat × Value) := [(0, .ref b), (1, .ref (al 0 0)), (2, .ref (al 8 0)), (3, .ref (al 10 0)), (4, .int x4)]
def lwJ (p : Program) (l : Launch) (e : Env) (s : State) (m : MethodId) (below : List Frame) (meth : Method) (c : Code) (b : Nat) (x4 : Int32) (D : va_G) (dA : Nat → ClassId) (lo k ns : Nat) : Prop :=
  ∀ (al : Nat → Nat → Nat) (σ μ : CS) (n r : Nat) (O : List Nat) (H : Heap) (locs : List Loc) (ls : Array Slot), Rel σ μ n r O → Inv D dA lo al σ μ H → va_S (fun q => lo ≤ q) s.heap H locs → lv_has ls 8 (lwV b x4 al) → W p l e room_1 s m #[Value.ref b] below meth c H locs (k + 3) (ns + 17) (lw_Z below #[Value.ref b] s) (F0 m 1067 ls [])
theorem end2 {α : Type} {P : CS → CS → Prop} {A B : α × CS} {ra rb : α} {ua ub : CS} (ea : (ra, ua) = A) (eb : (rb, ub) = B) (o : A.1 = B.1 ∧ P A.2 B.2) : ra = rb ∧ P ua ub := by
  subst ea; subst eb; exact o
theorem end1 {α : Type} {A B : α} {ra rb : α} {ub u : CS} (ea : ra = A) (eb : (rb, ub) = (B, u)) (o : A = B) : ra = rb ∧ ub = u := by
  cases eb; exact ⟨ea.trans o, rfl⟩
theorem end32 {P : CS → CS → Prop} {μ μ8 u8 u6 : CS} {C : Int32 × Int32 × CS} {M : Int32 × CS} {r9 r6 : Int32} (er : r9 = C.1) (es : u8 = C.2.2) (em : μ8 = (if C.1 = 0 then uL μ 10 0 0 C.2.1.toInt64 else μ)) (e6 : (r6, u6) = M) (o : fI M.2 8 0 0 = C.1 ∧ (C.1 = 0 → C.2.1 = M.1) ∧ fL M.2 10 = fL μ8 10 ∧ P C.2.2 M.2) : fI u6 8 0 0 = r9 ∧ (r9 = 0 → fL u6 10 0 0 = r6.toInt64) ∧ P u8 u6 := by
  subst e6
  obtain ⟨o1, o2, o3, o4⟩ := o
  refine ⟨o1.trans er.symm, fun z => ?_, by rw [es]; exact o4⟩
  have o3 : fL u6 10 = fL μ8 10 := o3
  have o2 : C.1 = 0 → C.2.1 = r6 := o2
  rw [o3, em, if_pos (er.symm.trans z), fL_uL, up3_at, va_up_self, o2 (er.symm.trans z)]
theorem end64 {P : CS → CS → Prop} {μ μ8 u8 u6 : CS} {C : Int32 × Int64 × CS} {M : Int64 × CS} {r9 : Int32} {r6 : Int64} (er : r9 = C.1) (es : u8 = C.2.2) (em : μ8 = (if C.1 = 0 then uL μ 10 0 0 C.2.1 else μ)) (e6 : (r6, u6) = M) (o : fI M.2 8 0 0 = C.1 ∧ (C.1 = 0 → C.2.1 = M.1) ∧ fL M.2 10 = fL μ8 10 ∧ P C.2.2 M.2) : fI u6 8 0 0 = r9 ∧ (r9 = 0 → fL u6 10 0 0 = r6) ∧ P u8 u6 := by
  subst e6
  obtain ⟨o1, o2, o3, o4⟩ := o
  refine ⟨o1.trans er.symm, fun z => ?_, by rw [es]; exact o4⟩
  have o3 : fL u6 10 = fL μ8 10 := o3
  have o2 : C.1 = 0 → C.2.1 = r6 := o2
  rw [o3, em, if_pos (er.symm.trans z), fL_uL, up3_at, va_up_self, o2 (er.symm.trans z)]
