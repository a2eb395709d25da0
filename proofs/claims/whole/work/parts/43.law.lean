/-! the law: what it calls -/
def zLw (cx : zX) (b L : Nat) (xs : Nat → Int32) : Prop := va_X b L xs cx.2.1.1 cx.2.1.1.heap ∧ b < cx.2.1.1.heap.size ∧ ¬ cx.2.2.2 b
theorem zfq {σ u : zS} (e : u = σ) : zfrC σ u := e ▸ zfrC.rf
section ZLAW
variable {cx : zX} {gg : zG} {Q : State → Prop} {σ : zS} {pc : Nat} {lv : List (Option Value)} {st : List Value} {cc : ByteArray} {own : String} {nL : Nat}
theorem J_sld (hc : zOK cx gg cc own nL) {b L : Nat} {xs : Nat → Int32} (hX : zLw cx b L xs) {i : Nat} (hi : i < L) (hL : L ≤ 3072) (hd : decode cc pc = .ok (.iaload, 1)) (k : J cx gg Q σ (pc + 1) lv (.int (xs i) :: st)) : J cx gg Q σ pc lv (.int (nI i) :: .ref b :: st) := by
  intro H locs ls hP hS hl
  refine va_sld hc.1 hc.2.1 hX.1 hX.2.1 hX.2.2 hS (vp_in_nI hi (by omega)) hd ?_
  rw [nI_clamp (by omega)]
  exact k H locs ls hP hS hl
theorem J_slen (hc : zOK cx gg cc own nL) {b L : Nat} {xs : Nat → Int32} (hX : zLw cx b L xs) (hd : decode cc pc = .ok (.arraylength, 1)) (k : J cx gg Q σ (pc + 1) lv (.int (nI L) :: st)) : J cx gg Q σ pc lv (.ref b :: st) :=
  fun H locs ls hP hS hl => va_slen hc.1 hc.2.1 hX.1 hX.2.1 hX.2.2 hS hd (k H locs ls hP hS hl)
theorem J_arg (hc : zOK cx gg cc own nL) {b L : Nat} {xs : Nat → Int32} (hX : zLw cx b L xs) {x1 x2 : Option Value} {i k : Nat} {n : Int} (hn : Int32.ofInt n = nI k) (hk : i + k < L) (hL : L ≤ 3072) (d0 : decode cc pc = .ok (.aload_n 0, 1)) (d1 : decode cc (pc + 1) = .ok (.iload_n 3, 1)) (d2 : decode cc (pc + 2) = .ok (.iconst n, 1)) (d3 : decode cc (pc + 3) = .ok (.iadd, 1)) (d4 : decode cc (pc + 4) = .ok (.iaload, 1)) (kk : J cx gg Q σ (pc + 5) [some (.ref b), x1, x2, some (.int (nI i))] (.int (xs (i + k)) :: st)) : J cx gg Q σ pc [some (.ref b), x1, x2, some (.int (nI i))] st := by
  refine J_aloadn_0 hc d0 ?_
  refine J_iloadn_3 hc d1 ?_
  refine J_iconst hc d2 hn ?_
  refine J_iadd hc d3 ?_
  rw [nI_add]
  exact J_sld hc hX hk hL d4 kk
theorem J_tswI (hc : zOK cx gg cc own nL) {x : Int32} {df hi off : Int} {offs : Array Int} {len j : Nat} (tgt : Nat) (hd : decode cc pc = .ok (.tableswitch df 0 hi offs, len)) (hx : x.toInt = (j : Int)) (hj : (j : Int) ≤ hi) (ho : offs[j]? = some off) (ht : (pc : Int) + off = (tgt : Int)) (k : J cx gg Q σ tgt lv st) : J cx gg Q σ pc lv (.int x :: st) :=
  fun H locs ls hP hS hl => lv_tableIn hc.1 hc.2.1 hd (by omega) (by omega) (by rw [hx, show ((j : Int) - 0).toNat = j by omega]; exact ho) ht (k H locs ls hP hS hl)
theorem J_tswD (hc : zOK cx gg cc own nL) {x : Int32} {df hi : Int} {offs : Array Int} {len : Nat} (tgt : Nat) (hd : decode cc pc = .ok (.tableswitch df 0 hi offs, len)) (hx : x.toInt < 0 ∨ hi < x.toInt) (ht : (pc : Int) + df = (tgt : Int)) (k : J cx gg Q σ tgt lv st) : J cx gg Q σ pc lv (.int x :: st) :=
  fun H locs ls hP hS hl => lv_tableOut hc.1 hc.2.1 hd hx ht (k H locs ls hP hS hl)
theorem lw_k0 (hc : zOK cx gg cL_law RL 4) (hR : zR cx 9 328) {b L i m : Nat} {xs : Nat → Int32} {N : Nat → Nat} (hX : zLw cx b L xs) (hL : L ≤ 3072) (hi : i + 6 ≤ L) (h : zCP σ N m) (next : ∀ u : zS, (∃ N m, zCP u N m) → J cx gg Q u 952 [some (.ref b), some (.ref (zo gg)), some (.ref (zM gg)), some (.int (nI i))] []) : J cx gg Q σ 140 [some (.ref b), some (.ref (zo gg)), some (.ref (zM gg)), some (.int (nI i))] [] := by
  refine J_aloadn_1 (pc := 140) hc dL_law_140 ?_
  refine J_arg (pc := 141) (k := 1) hc hX (by decide) (by omega) hL dL_law_141 dL_law_142 dL_law_143 dL_law_144 dL_law_145 ?_
  refine J_arg (pc := 146) (k := 2) hc hX (by decide) (by omega) hL dL_law_146 dL_law_147 dL_law_148 dL_law_149 dL_law_150 ?_
  refine kL_13 (pc := 151) hc hR dL_law_151 (c_X3_pieces) (by decide) (Nat.le_of_ble_eq_true rfl) rfl (fun r1 u1 p => ?_)
  have p : zP3_pieces σ (xs (i + 1)) (xs (i + 2)) r1 u1 := p
  have fr : zfrC σ u1 := zf_pieces p
  refine J_aloadn_2 (pc := 154) hc dL_law_154 ?_
  refine J_arg (pc := 155) (k := 1) hc hX (by decide) (by omega) hL dL_law_155 dL_law_156 dL_law_157 dL_law_158 dL_law_159 ?_
  refine J_arg (pc := 160) (k := 2) hc hX (by decide) (by omega) hL dL_law_160 dL_law_161 dL_law_162 dL_law_163 dL_law_164 ?_
  refine kL_17 (pc := 165) hc hR dL_law_165 (c_X4_pieces) (by decide) (Nat.le_of_ble_eq_true rfl) rfl (fun r2 u2 q => ?_)
  have q : zP4_pieces u1 (xs (i + 1)) (xs (i + 2)) r2 u2 := q
  have g := zk_pieces h p q
  exact J_icmp_eq (pc := 168) hc 952 dL_law_168 (by decide) (fun _ => next u2 g.2) (fun w => absurd g.1 w)
theorem lw_k1 (hc : zOK cx gg cL_law RL 4) (hR : zR cx 9 328) {b L i m : Nat} {xs : Nat → Int32} {N : Nat → Nat} (hX : zLw cx b L xs) (hL : L ≤ 3072) (hi : i + 6 ≤ L) (h : zCP σ N m) (next : ∀ u : zS, (∃ N m, zCP u N m) → J cx gg Q u 952 [some (.ref b), some (.ref (zo gg)), some (.ref (zM gg)), some (.int (nI i))] []) : J cx gg Q σ 173 [some (.ref b), some (.ref (zo gg)), some (.ref (zM gg)), some (.int (nI i))] [] := by
  refine J_aloadn_1 (pc := 173) hc dL_law_173 ?_
  refine J_arg (pc := 174) (k := 1) hc hX (by decide) (by omega) hL dL_law_174 dL_law_175 dL_law_176 dL_law_177 dL_law_178 ?_
  refine J_arg (pc := 179) (k := 2) hc hX (by decide) (by omega) hL dL_law_179 dL_law_180 dL_law_181 dL_law_182 dL_law_183 ?_
  refine J_arg (pc := 184) (k := 3) hc hX (by decide) (by omega) hL dL_law_184 dL_law_185 dL_law_186 dL_law_187 dL_law_188 ?_
  refine J_arg (pc := 189) (k := 4) hc hX (by decide) (by omega) hL dL_law_189 dL_law_190 dL_law_191 dL_law_192 dL_law_193 ?_
  refine J_arg (pc := 194) (k := 5) hc hX (by decide) (by omega) hL dL_law_194 dL_law_195 dL_law_196 dL_law_197 dL_law_198 ?_
  refine kL_18 (pc := 199) hc hR dL_law_199 (c_X3_piece h.1) (by decide) (Nat.le_of_ble_eq_true rfl) rfl (fun r1 u1 p => ?_)
  have p : zP3_piece σ (xs (i + 1)) (xs (i + 2)) (xs (i + 3)) (xs (i + 4)) (xs (i + 5)) N r1 u1 := p
  have fr : zfrC σ u1 := zf_piece p
  refine J_aloadn_2 (pc := 202) hc dL_law_202 ?_
  refine J_arg (pc := 203) (k := 1) hc hX (by decide) (by omega) hL dL_law_203 dL_law_204 dL_law_205 dL_law_206 dL_law_207 ?_
  refine J_arg (pc := 208) (k := 2) hc hX (by decide) (by omega) hL dL_law_208 dL_law_209 dL_law_210 dL_law_211 dL_law_212 ?_
  refine J_arg (pc := 213) (k := 3) hc hX (by decide) (by omega) hL dL_law_213 dL_law_214 dL_law_215 dL_law_216 dL_law_217 ?_
  refine J_arg (pc := 218) (k := 4) hc hX (by decide) (by omega) hL dL_law_218 dL_law_219 dL_law_220 dL_law_221 dL_law_222 ?_
  refine J_arg (pc := 223) (k := 5) hc hX (by decide) (by omega) hL dL_law_223 dL_law_224 dL_law_225 dL_law_226 dL_law_227 ?_
  refine kL_22 (pc := 228) hc hR dL_law_228 (c_X4_piece (zCP_af h fr).1) (by decide) (Nat.le_of_ble_eq_true rfl) rfl (fun r2 u2 q => ?_)
  have q : zP4_piece u1 (xs (i + 1)) (xs (i + 2)) (xs (i + 3)) (xs (i + 4)) (xs (i + 5)) N r2 u2 := q
  have g := zk_piece h p q
  exact J_icmp_eq (pc := 231) hc 952 dL_law_231 (by decide) (fun _ => next u2 g.2) (fun w => absurd g.1 w)
theorem lw_k2 (hc : zOK cx gg cL_law RL 4) (hR : zR cx 9 328) {b L i m : Nat} {xs : Nat → Int32} {N : Nat → Nat} (hX : zLw cx b L xs) (hL : L ≤ 3072) (hi : i + 6 ≤ L) (h : zCP σ N m) (next : ∀ u : zS, (∃ N m, zCP u N m) → J cx gg Q u 952 [some (.ref b), some (.ref (zo gg)), some (.ref (zM gg)), some (.int (nI i))] []) : J cx gg Q σ 236 [some (.ref b), some (.ref (zo gg)), some (.ref (zM gg)), some (.int (nI i))] [] := by
  refine J_aloadn_1 (pc := 236) hc dL_law_236 ?_
  refine J_arg (pc := 237) (k := 1) hc hX (by decide) (by omega) hL dL_law_237 dL_law_238 dL_law_239 dL_law_240 dL_law_241 ?_
  refine J_arg (pc := 242) (k := 2) hc hX (by decide) (by omega) hL dL_law_242 dL_law_243 dL_law_244 dL_law_245 dL_law_246 ?_
  refine J_arg (pc := 247) (k := 3) hc hX (by decide) (by omega) hL dL_law_247 dL_law_248 dL_law_249 dL_law_250 dL_law_251 ?_
  refine kL_23 (pc := 252) hc hR dL_law_252 (c_X3_of h.1) (by decide) (Nat.le_of_ble_eq_true rfl) rfl (fun r1 u1 p => ?_)
  have p : zP3_of σ (xs (i + 1)) (xs (i + 2)) (xs (i + 3)) N r1 u1 := p
  have fr : zfrC σ u1 := zfq p.1
  refine J_aloadn_2 (pc := 255) hc dL_law_255 ?_
  refine J_arg (pc := 256) (k := 1) hc hX (by decide) (by omega) hL dL_law_256 dL_law_257 dL_law_258 dL_law_259 dL_law_260 ?_
  refine J_arg (pc := 261) (k := 2) hc hX (by decide) (by omega) hL dL_law_261 dL_law_262 dL_law_263 dL_law_264 dL_law_265 ?_
  refine J_arg (pc := 266) (k := 3) hc hX (by decide) (by omega) hL dL_law_266 dL_law_267 dL_law_268 dL_law_269 dL_law_270 ?_
  refine kL_27 (pc := 271) hc hR dL_law_271 (c_X4_of (zCP_af h fr).1) (by decide) (Nat.le_of_ble_eq_true rfl) rfl (fun r2 u2 q => ?_)
  have q : zP4_of u1 (xs (i + 1)) (xs (i + 2)) (xs (i + 3)) N r2 u2 := q
  have g := zk_of h p q
  exact J_icmp_eq (pc := 274) hc 952 dL_law_274 (by decide) (fun _ => next u2 g.2) (fun w => absurd g.1 w)
theorem lw_k3 (hc : zOK cx gg cL_law RL 4) (hR : zR cx 9 328) {b L i m : Nat} {xs : Nat → Int32} {N : Nat → Nat} (hX : zLw cx b L xs) (hL : L ≤ 3072) (hi : i + 6 ≤ L) (h : zCP σ N m) (next : ∀ u : zS, (∃ N m, zCP u N m) → J cx gg Q u 952 [some (.ref b), some (.ref (zo gg)), some (.ref (zM gg)), some (.int (nI i))] []) : J cx gg Q σ 279 [some (.ref b), some (.ref (zo gg)), some (.ref (zM gg)), some (.int (nI i))] [] := by
  refine J_aloadn_1 (pc := 279) hc dL_law_279 ?_
  refine J_arg (pc := 280) (k := 1) hc hX (by decide) (by omega) hL dL_law_280 dL_law_281 dL_law_282 dL_law_283 dL_law_284 ?_
  refine J_arg (pc := 285) (k := 2) hc hX (by decide) (by omega) hL dL_law_285 dL_law_286 dL_law_287 dL_law_288 dL_law_289 ?_
  refine J_arg (pc := 290) (k := 3) hc hX (by decide) (by omega) hL dL_law_290 dL_law_291 dL_law_292 dL_law_293 dL_law_294 ?_
  refine J_arg (pc := 295) (k := 4) hc hX (by decide) (by omega) hL dL_law_295 dL_law_296 dL_law_297 dL_law_298 dL_law_299 ?_
  refine kL_28 (pc := 300) hc hR dL_law_300 (c_X3_value h.1) (by decide) (Nat.le_of_ble_eq_true rfl) rfl (fun r1 u1 p => ?_)
  have p : zP3_value σ (xs (i + 1)) (xs (i + 2)) (xs (i + 3)) (xs (i + 4)) N r1 u1 := p
  have fr : zfrC σ u1 := zfq p.1
  refine J_aloadn_2 (pc := 303) hc dL_law_303 ?_
  refine J_arg (pc := 304) (k := 1) hc hX (by decide) (by omega) hL dL_law_304 dL_law_305 dL_law_306 dL_law_307 dL_law_308 ?_
  refine J_arg (pc := 309) (k := 2) hc hX (by decide) (by omega) hL dL_law_309 dL_law_310 dL_law_311 dL_law_312 dL_law_313 ?_
  refine J_arg (pc := 314) (k := 3) hc hX (by decide) (by omega) hL dL_law_314 dL_law_315 dL_law_316 dL_law_317 dL_law_318 ?_
  refine J_arg (pc := 319) (k := 4) hc hX (by decide) (by omega) hL dL_law_319 dL_law_320 dL_law_321 dL_law_322 dL_law_323 ?_
  refine kL_32 (pc := 324) hc hR dL_law_324 (c_X4_value (zCP_af h fr).1) (by decide) (Nat.le_of_ble_eq_true rfl) rfl (fun r2 u2 q => ?_)
  have q : zP4_value u1 (xs (i + 1)) (xs (i + 2)) (xs (i + 3)) (xs (i + 4)) N r2 u2 := q
  have g := zk_value h p q
  exact J_lcmp_eq (pc := 327) hc 952 dL_law_327 dL_law_328 (by decide) (fun _ => next u2 g.2) (fun w => absurd g.1 w)
theorem lw_k4 (hc : zOK cx gg cL_law RL 4) (hR : zR cx 9 328) {b L i m : Nat} {xs : Nat → Int32} {N : Nat → Nat} (hX : zLw cx b L xs) (hL : L ≤ 3072) (hi : i + 6 ≤ L) (h : zCP σ N m) (next : ∀ u : zS, (∃ N m, zCP u N m) → J cx gg Q u 952 [some (.ref b), some (.ref (zo gg)), some (.ref (zM gg)), some (.int (nI i))] []) : J cx gg Q σ 333 [some (.ref b), some (.ref (zo gg)), some (.ref (zM gg)), some (.int (nI i))] [] := by
  refine J_aloadn_1 (pc := 333) hc dL_law_333 ?_
  refine J_arg (pc := 334) (k := 1) hc hX (by decide) (by omega) hL dL_law_334 dL_law_335 dL_law_336 dL_law_337 dL_law_338 ?_
  refine J_arg (pc := 339) (k := 2) hc hX (by decide) (by omega) hL dL_law_339 dL_law_340 dL_law_341 dL_law_342 dL_law_343 ?_
  refine kL_33 (pc := 344) hc hR dL_law_344 (c_X3_join h.1) (by decide) (Nat.le_of_ble_eq_true rfl) rfl (fun r1 u1 p => ?_)
  have p : zP3_join σ (xs (i + 1)) (xs (i + 2)) N r1 u1 := p
  have fr : zfrC σ u1 := zfq p.1
  refine J_aloadn_2 (pc := 347) hc dL_law_347 ?_
  refine J_arg (pc := 348) (k := 1) hc hX (by decide) (by omega) hL dL_law_348 dL_law_349 dL_law_350 dL_law_351 dL_law_352 ?_
  refine J_arg (pc := 353) (k := 2) hc hX (by decide) (by omega) hL dL_law_353 dL_law_354 dL_law_355 dL_law_356 dL_law_357 ?_
  refine kL_36 (pc := 358) hc hR dL_law_358 (c_X4_join (zCP_af h fr).1) (by decide) (Nat.le_of_ble_eq_true rfl) rfl (fun r2 u2 q => ?_)
  have q : zP4_join u1 (xs (i + 1)) (xs (i + 2)) N r2 u2 := q
  have g := zk_join h p q
  exact J_icmp_eq (pc := 361) hc 952 dL_law_361 (by decide) (fun _ => next u2 g.2) (fun w => absurd g.1 w)
theorem lw_k5 (hc : zOK cx gg cL_law RL 4) (hR : zR cx 9 328) {b L i m : Nat} {xs : Nat → Int32} {N : Nat → Nat} (hX : zLw cx b L xs) (hL : L ≤ 3072) (hi : i + 6 ≤ L) (h : zCP σ N m) (next : ∀ u : zS, (∃ N m, zCP u N m) → J cx gg Q u 952 [some (.ref b), some (.ref (zo gg)), some (.ref (zM gg)), some (.int (nI i))] []) : J cx gg Q σ 366 [some (.ref b), some (.ref (zo gg)), some (.ref (zM gg)), some (.int (nI i))] [] := by
  refine J_aloadn_1 (pc := 366) hc dL_law_366 ?_
  refine J_arg (pc := 367) (k := 1) hc hX (by decide) (by omega) hL dL_law_367 dL_law_368 dL_law_369 dL_law_370 dL_law_371 ?_
  refine J_arg (pc := 372) (k := 2) hc hX (by decide) (by omega) hL dL_law_372 dL_law_373 dL_law_374 dL_law_375 dL_law_376 ?_
  refine kL_37 (pc := 377) hc hR dL_law_377 (c_X3_has h.1) (by decide) (Nat.le_of_ble_eq_true rfl) rfl (fun r1 u1 p => ?_)
  have p : zP3_has σ (xs (i + 1)) (xs (i + 2)) N r1 u1 := p
  have fr : zfrC σ u1 := zfq p.1
  refine J_aloadn_2 (pc := 380) hc dL_law_380 ?_
  refine J_arg (pc := 381) (k := 1) hc hX (by decide) (by omega) hL dL_law_381 dL_law_382 dL_law_383 dL_law_384 dL_law_385 ?_
  refine J_arg (pc := 386) (k := 2) hc hX (by decide) (by omega) hL dL_law_386 dL_law_387 dL_law_388 dL_law_389 dL_law_390 ?_
  refine kL_40 (pc := 391) hc hR dL_law_391 (c_X4_has (zCP_af h fr).1) (by decide) (Nat.le_of_ble_eq_true rfl) rfl (fun r2 u2 q => ?_)
  have q : zP4_has u1 (xs (i + 1)) (xs (i + 2)) N r2 u2 := q
  have g := zk_has h p q
  exact J_icmp_eq (pc := 394) hc 952 dL_law_394 (by decide) (fun _ => next u2 g.2) (fun w => absurd g.1 w)
theorem lw_k6 (hc : zOK cx gg cL_law RL 4) (hR : zR cx 9 328) {b L i m : Nat} {xs : Nat → Int32} {N : Nat → Nat} (hX : zLw cx b L xs) (hL : L ≤ 3072) (hi : i + 6 ≤ L) (h : zCP σ N m) (next : ∀ u : zS, (∃ N m, zCP u N m) → J cx gg Q u 952 [some (.ref b), some (.ref (zo gg)), some (.ref (zM gg)), some (.int (nI i))] []) : J cx gg Q σ 399 [some (.ref b), some (.ref (zo gg)), some (.ref (zM gg)), some (.int (nI i))] [] := by
  refine J_aloadn_1 (pc := 399) hc dL_law_399 ?_
  refine J_arg (pc := 400) (k := 1) hc hX (by decide) (by omega) hL dL_law_400 dL_law_401 dL_law_402 dL_law_403 dL_law_404 ?_
  refine J_arg (pc := 405) (k := 2) hc hX (by decide) (by omega) hL dL_law_405 dL_law_406 dL_law_407 dL_law_408 dL_law_409 ?_
  refine kL_41 (pc := 410) hc hR dL_law_410 (c_X3_end h.1) (by decide) (Nat.le_of_ble_eq_true rfl) rfl (fun r1 u1 p => ?_)
  have p : zP3_end σ (xs (i + 1)) (xs (i + 2)) N r1 u1 := p
  have fr : zfrC σ u1 := zfq p.1
  refine J_aloadn_2 (pc := 413) hc dL_law_413 ?_
  refine J_arg (pc := 414) (k := 1) hc hX (by decide) (by omega) hL dL_law_414 dL_law_415 dL_law_416 dL_law_417 dL_law_418 ?_
  refine J_arg (pc := 419) (k := 2) hc hX (by decide) (by omega) hL dL_law_419 dL_law_420 dL_law_421 dL_law_422 dL_law_423 ?_
  refine kL_44 (pc := 424) hc hR dL_law_424 (c_X4_end (zCP_af h fr).1) (by decide) (Nat.le_of_ble_eq_true rfl) rfl (fun r2 u2 q => ?_)
  have q : zP4_end u1 (xs (i + 1)) (xs (i + 2)) N r2 u2 := q
  have g := zk_end h p q
  exact J_icmp_eq (pc := 427) hc 952 dL_law_427 (by decide) (fun _ => next u2 g.2) (fun w => absurd g.1 w)
theorem lw_k7 (hc : zOK cx gg cL_law RL 4) (hR : zR cx 9 328) {b L i m : Nat} {xs : Nat → Int32} {N : Nat → Nat} (hX : zLw cx b L xs) (hL : L ≤ 3072) (hi : i + 6 ≤ L) (h : zCP σ N m) (next : ∀ u : zS, (∃ N m, zCP u N m) → J cx gg Q u 952 [some (.ref b), some (.ref (zo gg)), some (.ref (zM gg)), some (.int (nI i))] []) : J cx gg Q σ 432 [some (.ref b), some (.ref (zo gg)), some (.ref (zM gg)), some (.int (nI i))] [] := by
  refine J_aloadn_1 (pc := 432) hc dL_law_432 ?_
  refine J_arg (pc := 433) (k := 1) hc hX (by decide) (by omega) hL dL_law_433 dL_law_434 dL_law_435 dL_law_436 dL_law_437 ?_
  refine kL_45 (pc := 438) hc hR dL_law_438 (c_X3_zeros h.1) (by decide) (Nat.le_of_ble_eq_true rfl) rfl (fun r1 u1 p => ?_)
  have p : zP3_zeros σ (xs (i + 1)) N r1 u1 := p
  have fr : zfrC σ u1 := zf_zeros p
  refine J_aloadn_2 (pc := 441) hc dL_law_441 ?_
  refine J_arg (pc := 442) (k := 1) hc hX (by decide) (by omega) hL dL_law_442 dL_law_443 dL_law_444 dL_law_445 dL_law_446 ?_
  refine kL_49 (pc := 447) hc hR dL_law_447 (c_X4_zeros (zCP_af h fr).1) (by decide) (Nat.le_of_ble_eq_true rfl) rfl (fun r2 u2 q => ?_)
  have q : zP4_zeros u1 (xs (i + 1)) N r2 u2 := q
  have g := zk_zeros h p q
  exact J_icmp_eq (pc := 450) hc 952 dL_law_450 (by decide) (fun _ => next u2 g.2) (fun w => absurd g.1 w)
theorem lw_k8 (hc : zOK cx gg cL_law RL 4) (hR : zR cx 9 328) {b L i m : Nat} {xs : Nat → Int32} {N : Nat → Nat} (hX : zLw cx b L xs) (hL : L ≤ 3072) (hi : i + 6 ≤ L) (h : zCP σ N m) (next : ∀ u : zS, (∃ N m, zCP u N m) → J cx gg Q u 952 [some (.ref b), some (.ref (zo gg)), some (.ref (zM gg)), some (.int (nI i))] []) : J cx gg Q σ 455 [some (.ref b), some (.ref (zo gg)), some (.ref (zM gg)), some (.int (nI i))] [] := by
  refine J_aloadn_1 (pc := 455) hc dL_law_455 ?_
  refine J_arg (pc := 456) (k := 1) hc hX (by decide) (by omega) hL dL_law_456 dL_law_457 dL_law_458 dL_law_459 dL_law_460 ?_
  refine J_arg (pc := 461) (k := 2) hc hX (by decide) (by omega) hL dL_law_461 dL_law_462 dL_law_463 dL_law_464 dL_law_465 ?_
  refine kL_50 (pc := 466) hc hR dL_law_466 (c_X3_zero h.1) (by decide) (Nat.le_of_ble_eq_true rfl) rfl (fun r1 u1 p => ?_)
  have p : zP3_zero σ (xs (i + 1)) (xs (i + 2)) N r1 u1 := p
  have fr : zfrC σ u1 := zf_zero p
  refine J_aloadn_2 (pc := 469) hc dL_law_469 ?_
  refine J_arg (pc := 470) (k := 1) hc hX (by decide) (by omega) hL dL_law_470 dL_law_471 dL_law_472 dL_law_473 dL_law_474 ?_
  refine J_arg (pc := 475) (k := 2) hc hX (by decide) (by omega) hL dL_law_475 dL_law_476 dL_law_477 dL_law_478 dL_law_479 ?_
  refine kL_53 (pc := 480) hc hR dL_law_480 (c_X4_zero (zCP_af h fr).1) (by decide) (Nat.le_of_ble_eq_true rfl) rfl (fun r2 u2 q => ?_)
  have q : zP4_zero u1 (xs (i + 1)) (xs (i + 2)) N r2 u2 := q
  have g := zk_zero h p q
  exact J_icmp_eq (pc := 483) hc 952 dL_law_483 (by decide) (fun _ => next u2 g.2) (fun w => absurd g.1 w)
theorem lw_k9 (hc : zOK cx gg cL_law RL 4) (hR : zR cx 9 328) {b L i m : Nat} {xs : Nat → Int32} {N : Nat → Nat} (hX : zLw cx b L xs) (hL : L ≤ 3072) (hi : i + 6 ≤ L) (h : zCP σ N m) (next : ∀ u : zS, (∃ N m, zCP u N m) → J cx gg Q u 952 [some (.ref b), some (.ref (zo gg)), some (.ref (zM gg)), some (.int (nI i))] []) : J cx gg Q σ 488 [some (.ref b), some (.ref (zo gg)), some (.ref (zM gg)), some (.int (nI i))] [] := by
  refine J_aloadn_1 (pc := 488) hc dL_law_488 ?_
  refine J_arg (pc := 489) (k := 1) hc hX (by decide) (by omega) hL dL_law_489 dL_law_490 dL_law_491 dL_law_492 dL_law_493 ?_
  refine J_arg (pc := 494) (k := 2) hc hX (by decide) (by omega) hL dL_law_494 dL_law_495 dL_law_496 dL_law_497 dL_law_498 ?_
  refine J_arg (pc := 499) (k := 3) hc hX (by decide) (by omega) hL dL_law_499 dL_law_500 dL_law_501 dL_law_502 dL_law_503 ?_
  refine J_arg (pc := 504) (k := 4) hc hX (by decide) (by omega) hL dL_law_504 dL_law_505 dL_law_506 dL_law_507 dL_law_508 ?_
  refine kL_54 (pc := 509) hc hR dL_law_509 (c_X3_area h.1) (by decide) (Nat.le_of_ble_eq_true rfl) rfl (fun r1 u1 p => ?_)
  have p : zP3_area σ (xs (i + 1)) (xs (i + 2)) (xs (i + 3)) (xs (i + 4)) N r1 u1 := p
  have fr : zfrC σ u1 := zfq p.1
  refine J_aloadn_2 (pc := 512) hc dL_law_512 ?_
  refine J_arg (pc := 513) (k := 1) hc hX (by decide) (by omega) hL dL_law_513 dL_law_514 dL_law_515 dL_law_516 dL_law_517 ?_
  refine J_arg (pc := 518) (k := 2) hc hX (by decide) (by omega) hL dL_law_518 dL_law_519 dL_law_520 dL_law_521 dL_law_522 ?_
  refine J_arg (pc := 523) (k := 3) hc hX (by decide) (by omega) hL dL_law_523 dL_law_524 dL_law_525 dL_law_526 dL_law_527 ?_
  refine J_arg (pc := 528) (k := 4) hc hX (by decide) (by omega) hL dL_law_528 dL_law_529 dL_law_530 dL_law_531 dL_law_532 ?_
  refine kL_57 (pc := 533) hc hR dL_law_533 (c_X4_area (zCP_af h fr).1) (by decide) (Nat.le_of_ble_eq_true rfl) rfl (fun r2 u2 q => ?_)
  have q : zP4_area u1 (xs (i + 1)) (xs (i + 2)) (xs (i + 3)) (xs (i + 4)) N r2 u2 := q
  have g := zk_area h p q
  exact J_lcmp_eq (pc := 536) hc 952 dL_law_536 dL_law_537 (by decide) (fun _ => next u2 g.2) (fun w => absurd g.1 w)
theorem lw_k10 (hc : zOK cx gg cL_law RL 4) (hR : zR cx 9 328) {b L i m : Nat} {xs : Nat → Int32} {N : Nat → Nat} (hX : zLw cx b L xs) (hL : L ≤ 3072) (hi : i + 6 ≤ L) (h : zCP σ N m) (next : ∀ u : zS, (∃ N m, zCP u N m) → J cx gg Q u 952 [some (.ref b), some (.ref (zo gg)), some (.ref (zM gg)), some (.int (nI i))] []) : J cx gg Q σ 542 [some (.ref b), some (.ref (zo gg)), some (.ref (zM gg)), some (.int (nI i))] [] := by
  refine J_aloadn_1 (pc := 542) hc dL_law_542 ?_
  refine J_arg (pc := 543) (k := 1) hc hX (by decide) (by omega) hL dL_law_543 dL_law_544 dL_law_545 dL_law_546 dL_law_547 ?_
  refine J_arg (pc := 548) (k := 2) hc hX (by decide) (by omega) hL dL_law_548 dL_law_549 dL_law_550 dL_law_551 dL_law_552 ?_
  refine kL_58 (pc := 553) hc hR dL_law_553 (c_X3_same h.1) (by decide) (Nat.le_of_ble_eq_true rfl) rfl (fun r1 u1 p => ?_)
  have p : zP3_same σ (xs (i + 1)) (xs (i + 2)) N r1 u1 := p
  have fr : zfrC σ u1 := zfq p.1
  refine J_aloadn_2 (pc := 556) hc dL_law_556 ?_
  refine J_arg (pc := 557) (k := 1) hc hX (by decide) (by omega) hL dL_law_557 dL_law_558 dL_law_559 dL_law_560 dL_law_561 ?_
  refine J_arg (pc := 562) (k := 2) hc hX (by decide) (by omega) hL dL_law_562 dL_law_563 dL_law_564 dL_law_565 dL_law_566 ?_
  refine kL_61 (pc := 567) hc hR dL_law_567 (c_X4_same (zCP_af h fr).1) (by decide) (Nat.le_of_ble_eq_true rfl) rfl (fun r2 u2 q => ?_)
  have q : zP4_same u1 (xs (i + 1)) (xs (i + 2)) N r2 u2 := q
  have g := zk_same h p q
  exact J_icmp_eq (pc := 570) hc 952 dL_law_570 (by decide) (fun _ => next u2 g.2) (fun w => absurd g.1 w)
theorem lw_k11 (hc : zOK cx gg cL_law RL 4) (hR : zR cx 9 328) {b L i m : Nat} {xs : Nat → Int32} {N : Nat → Nat} (hX : zLw cx b L xs) (hL : L ≤ 3072) (hi : i + 6 ≤ L) (h : zCP σ N m) (next : ∀ u : zS, (∃ N m, zCP u N m) → J cx gg Q u 952 [some (.ref b), some (.ref (zo gg)), some (.ref (zM gg)), some (.int (nI i))] []) : J cx gg Q σ 575 [some (.ref b), some (.ref (zo gg)), some (.ref (zM gg)), some (.int (nI i))] [] := by
  refine J_aloadn_1 (pc := 575) hc dL_law_575 ?_
  refine J_arg (pc := 576) (k := 1) hc hX (by decide) (by omega) hL dL_law_576 dL_law_577 dL_law_578 dL_law_579 dL_law_580 ?_
  refine J_arg (pc := 581) (k := 2) hc hX (by decide) (by omega) hL dL_law_581 dL_law_582 dL_law_583 dL_law_584 dL_law_585 ?_
  refine kL_62 (pc := 586) hc hR dL_law_586 (c_X3_meets h.1) (by decide) (Nat.le_of_ble_eq_true rfl) rfl (fun r1 u1 p => ?_)
  have p : zP3_meets σ (xs (i + 1)) (xs (i + 2)) N r1 u1 := p
  have fr : zfrC σ u1 := zf_meets p
  refine J_aloadn_2 (pc := 589) hc dL_law_589 ?_
  refine J_arg (pc := 590) (k := 1) hc hX (by decide) (by omega) hL dL_law_590 dL_law_591 dL_law_592 dL_law_593 dL_law_594 ?_
  refine J_arg (pc := 595) (k := 2) hc hX (by decide) (by omega) hL dL_law_595 dL_law_596 dL_law_597 dL_law_598 dL_law_599 ?_
  refine kL_65 (pc := 600) hc hR dL_law_600 (c_X4_meets (zCP_af h fr).1) (by decide) (Nat.le_of_ble_eq_true rfl) rfl (fun r2 u2 q => ?_)
  have q : zP4_meets u1 (xs (i + 1)) (xs (i + 2)) N r2 u2 := q
  have g := zk_meets h p q
  exact J_icmp_eq (pc := 603) hc 952 dL_law_603 (by decide) (fun _ => next u2 g.2) (fun w => absurd g.1 w)
theorem lw_k12 (hc : zOK cx gg cL_law RL 4) (hR : zR cx 9 328) {b L i m : Nat} {xs : Nat → Int32} {N : Nat → Nat} (hX : zLw cx b L xs) (hL : L ≤ 3072) (hi : i + 6 ≤ L) (h : zCP σ N m) (next : ∀ u : zS, (∃ N m, zCP u N m) → J cx gg Q u 952 [some (.ref b), some (.ref (zo gg)), some (.ref (zM gg)), some (.int (nI i))] []) : J cx gg Q σ 608 [some (.ref b), some (.ref (zo gg)), some (.ref (zM gg)), some (.int (nI i))] [] := by
  refine J_aloadn_1 (pc := 608) hc dL_law_608 ?_
  refine J_arg (pc := 609) (k := 1) hc hX (by decide) (by omega) hL dL_law_609 dL_law_610 dL_law_611 dL_law_612 dL_law_613 ?_
  refine J_arg (pc := 614) (k := 2) hc hX (by decide) (by omega) hL dL_law_614 dL_law_615 dL_law_616 dL_law_617 dL_law_618 ?_
  refine J_arg (pc := 619) (k := 3) hc hX (by decide) (by omega) hL dL_law_619 dL_law_620 dL_law_621 dL_law_622 dL_law_623 ?_
  refine J_arg (pc := 624) (k := 4) hc hX (by decide) (by omega) hL dL_law_624 dL_law_625 dL_law_626 dL_law_627 dL_law_628 ?_
  refine J_arg (pc := 629) (k := 5) hc hX (by decide) (by omega) hL dL_law_629 dL_law_630 dL_law_631 dL_law_632 dL_law_633 ?_
  refine kL_66 (pc := 634) hc hR dL_law_634 (c_X3_mix h.1) (by decide) (Nat.le_of_ble_eq_true rfl) rfl (fun r1 u1 p => ?_)
  have p : zP3_mix σ (xs (i + 1)) (xs (i + 2)) (xs (i + 3)) (xs (i + 4)) (xs (i + 5)) N r1 u1 := p
  have fr : zfrC σ u1 := zf_mix p
  refine J_aloadn_2 (pc := 637) hc dL_law_637 ?_
  refine J_arg (pc := 638) (k := 1) hc hX (by decide) (by omega) hL dL_law_638 dL_law_639 dL_law_640 dL_law_641 dL_law_642 ?_
  refine J_arg (pc := 643) (k := 2) hc hX (by decide) (by omega) hL dL_law_643 dL_law_644 dL_law_645 dL_law_646 dL_law_647 ?_
  refine J_arg (pc := 648) (k := 3) hc hX (by decide) (by omega) hL dL_law_648 dL_law_649 dL_law_650 dL_law_651 dL_law_652 ?_
  refine J_arg (pc := 653) (k := 4) hc hX (by decide) (by omega) hL dL_law_653 dL_law_654 dL_law_655 dL_law_656 dL_law_657 ?_
  refine J_arg (pc := 658) (k := 5) hc hX (by decide) (by omega) hL dL_law_658 dL_law_659 dL_law_660 dL_law_661 dL_law_662 ?_
  refine kL_69 (pc := 663) hc hR dL_law_663 (c_X4_mix (zCP_af h fr).1) (by decide) (Nat.le_of_ble_eq_true rfl) rfl (fun r2 u2 q => ?_)
  have q : zP4_mix u1 (xs (i + 1)) (xs (i + 2)) (xs (i + 3)) (xs (i + 4)) (xs (i + 5)) N r2 u2 := q
  have g := zk_mix h p q
  exact J_icmp_eq (pc := 666) hc 952 dL_law_666 (by decide) (fun _ => next u2 g.2) (fun w => absurd g.1 w)
theorem lw_k13 (hc : zOK cx gg cL_law RL 4) (hR : zR cx 9 328) {b L i m : Nat} {xs : Nat → Int32} {N : Nat → Nat} (hX : zLw cx b L xs) (hL : L ≤ 3072) (hi : i + 6 ≤ L) (h : zCP σ N m) (next : ∀ u : zS, (∃ N m, zCP u N m) → J cx gg Q u 952 [some (.ref b), some (.ref (zo gg)), some (.ref (zM gg)), some (.int (nI i))] []) : J cx gg Q σ 671 [some (.ref b), some (.ref (zo gg)), some (.ref (zM gg)), some (.int (nI i))] [] := by
  refine J_aloadn_1 (pc := 671) hc dL_law_671 ?_
  refine J_arg (pc := 672) (k := 1) hc hX (by decide) (by omega) hL dL_law_672 dL_law_673 dL_law_674 dL_law_675 dL_law_676 ?_
  refine J_arg (pc := 677) (k := 2) hc hX (by decide) (by omega) hL dL_law_677 dL_law_678 dL_law_679 dL_law_680 dL_law_681 ?_
  refine kL_70 (pc := 682) hc hR dL_law_682 (c_X3_refine h.1) (by decide) (Nat.le_of_ble_eq_true rfl) rfl (fun r1 u1 p => ?_)
  have p : zP3_refine σ (xs (i + 1)) (xs (i + 2)) N r1 u1 := p
  have fr : zfrC σ u1 := zf_refine p
  refine J_aloadn_2 (pc := 685) hc dL_law_685 ?_
  refine J_arg (pc := 686) (k := 1) hc hX (by decide) (by omega) hL dL_law_686 dL_law_687 dL_law_688 dL_law_689 dL_law_690 ?_
  refine J_arg (pc := 691) (k := 2) hc hX (by decide) (by omega) hL dL_law_691 dL_law_692 dL_law_693 dL_law_694 dL_law_695 ?_
  refine kL_73 (pc := 696) hc hR dL_law_696 (c_X4_refine (zCP_af h fr).1) (by decide) (Nat.le_of_ble_eq_true rfl) rfl (fun r2 u2 q => ?_)
  have q : zP4_refine u1 (xs (i + 1)) (xs (i + 2)) N r2 u2 := q
  have g := zk_refine h p q
  exact J_icmp_eq (pc := 699) hc 952 dL_law_699 (by decide) (fun _ => next u2 g.2) (fun w => absurd g.1 w)
theorem lw_k14 (hc : zOK cx gg cL_law RL 4) (hR : zR cx 9 328) {b L i m : Nat} {xs : Nat → Int32} {N : Nat → Nat} (hX : zLw cx b L xs) (hL : L ≤ 3072) (hi : i + 6 ≤ L) (h : zCP σ N m) (next : ∀ u : zS, (∃ N m, zCP u N m) → J cx gg Q u 952 [some (.ref b), some (.ref (zo gg)), some (.ref (zM gg)), some (.int (nI i))] []) : J cx gg Q σ 704 [some (.ref b), some (.ref (zo gg)), some (.ref (zM gg)), some (.int (nI i))] [] := by
  refine J_aloadn_1 (pc := 704) hc dL_law_704 ?_
  refine J_arg (pc := 705) (k := 1) hc hX (by decide) (by omega) hL dL_law_705 dL_law_706 dL_law_707 dL_law_708 dL_law_709 ?_
  refine J_arg (pc := 710) (k := 2) hc hX (by decide) (by omega) hL dL_law_710 dL_law_711 dL_law_712 dL_law_713 dL_law_714 ?_
  refine kL_74 (pc := 715) hc hR dL_law_715 (c_X3_slope h.1) (by decide) (Nat.le_of_ble_eq_true rfl) rfl (fun r1 u1 p => ?_)
  have p : zP3_slope σ (xs (i + 1)) (xs (i + 2)) N r1 u1 := p
  have fr : zfrC σ u1 := zf_slope p
  refine J_aloadn_2 (pc := 718) hc dL_law_718 ?_
  refine J_arg (pc := 719) (k := 1) hc hX (by decide) (by omega) hL dL_law_719 dL_law_720 dL_law_721 dL_law_722 dL_law_723 ?_
  refine J_arg (pc := 724) (k := 2) hc hX (by decide) (by omega) hL dL_law_724 dL_law_725 dL_law_726 dL_law_727 dL_law_728 ?_
  refine kL_77 (pc := 729) hc hR dL_law_729 (c_X4_slope (zCP_af h fr).1) (by decide) (Nat.le_of_ble_eq_true rfl) rfl (fun r2 u2 q => ?_)
  have q : zP4_slope u1 (xs (i + 1)) (xs (i + 2)) N r2 u2 := q
  have g := zk_slope h p q
  exact J_icmp_eq (pc := 732) hc 952 dL_law_732 (by decide) (fun _ => next u2 g.2) (fun w => absurd g.1 w)
theorem lw_k15 (hc : zOK cx gg cL_law RL 4) (hR : zR cx 9 328) {b L i m : Nat} {xs : Nat → Int32} {N : Nat → Nat} (hX : zLw cx b L xs) (hL : L ≤ 3072) (hi : i + 6 ≤ L) (h : zCP σ N m) (next : ∀ u : zS, (∃ N m, zCP u N m) → J cx gg Q u 952 [some (.ref b), some (.ref (zo gg)), some (.ref (zM gg)), some (.int (nI i))] []) : J cx gg Q σ 737 [some (.ref b), some (.ref (zo gg)), some (.ref (zM gg)), some (.int (nI i))] [] := by
  refine J_aloadn_1 (pc := 737) hc dL_law_737 ?_
  refine J_arg (pc := 738) (k := 1) hc hX (by decide) (by omega) hL dL_law_738 dL_law_739 dL_law_740 dL_law_741 dL_law_742 ?_
  refine J_arg (pc := 743) (k := 2) hc hX (by decide) (by omega) hL dL_law_743 dL_law_744 dL_law_745 dL_law_746 dL_law_747 ?_
  refine kL_78 (pc := 748) hc hR dL_law_748 (c_X3_push h.1) (by decide) (Nat.le_of_ble_eq_true rfl) rfl (fun r1 u1 p => ?_)
  have p : zP3_push σ (xs (i + 1)) (xs (i + 2)) N r1 u1 := p
  have fr : zfrC σ u1 := zf_push p
  refine J_aloadn_2 (pc := 751) hc dL_law_751 ?_
  refine J_arg (pc := 752) (k := 1) hc hX (by decide) (by omega) hL dL_law_752 dL_law_753 dL_law_754 dL_law_755 dL_law_756 ?_
  refine J_arg (pc := 757) (k := 2) hc hX (by decide) (by omega) hL dL_law_757 dL_law_758 dL_law_759 dL_law_760 dL_law_761 ?_
  refine kL_81 (pc := 762) hc hR dL_law_762 (c_X4_push (zCP_af h fr).1) (by decide) (Nat.le_of_ble_eq_true rfl) rfl (fun r2 u2 q => ?_)
  have q : zP4_push u1 (xs (i + 1)) (xs (i + 2)) N r2 u2 := q
  have g := zk_push h p q
  exact J_icmp_eq (pc := 765) hc 952 dL_law_765 (by decide) (fun _ => next u2 g.2) (fun w => absurd g.1 w)
theorem lw_k16 (hc : zOK cx gg cL_law RL 4) (hR : zR cx 9 328) {b L i m : Nat} {xs : Nat → Int32} {N : Nat → Nat} (hX : zLw cx b L xs) (hL : L ≤ 3072) (hi : i + 6 ≤ L) (h : zCP σ N m) (next : ∀ u : zS, (∃ N m, zCP u N m) → J cx gg Q u 952 [some (.ref b), some (.ref (zo gg)), some (.ref (zM gg)), some (.int (nI i))] []) : J cx gg Q σ 770 [some (.ref b), some (.ref (zo gg)), some (.ref (zM gg)), some (.int (nI i))] [] := by
  refine J_aloadn_1 (pc := 770) hc dL_law_770 ?_
  refine J_arg (pc := 771) (k := 1) hc hX (by decide) (by omega) hL dL_law_771 dL_law_772 dL_law_773 dL_law_774 dL_law_775 ?_
  refine kL_82 (pc := 776) hc hR dL_law_776 (c_X3_point h.2.2.2.2.1 h.2.2.2.1) (by decide) (Nat.le_of_ble_eq_true rfl) rfl (fun r1 u1 p => ?_)
  have p : zP3_point σ (xs (i + 1)) m r1 u1 := p
  have fr : zfrC σ u1 := zf_point p
  refine J_aloadn_2 (pc := 779) hc dL_law_779 ?_
  refine J_arg (pc := 780) (k := 1) hc hX (by decide) (by omega) hL dL_law_780 dL_law_781 dL_law_782 dL_law_783 dL_law_784 ?_
  refine kL_85 (pc := 785) hc hR dL_law_785 (c_X4_point (zCP_af h fr).2 h.2.2.2.1) (by decide) (Nat.le_of_ble_eq_true rfl) rfl (fun r2 u2 q => ?_)
  have q : zP4_point u1 (xs (i + 1)) m r2 u2 := q
  have g := zk_point h p q
  exact J_icmp_eq (pc := 788) hc 952 dL_law_788 (by decide) (fun _ => next u2 g.2) (fun w => absurd g.1 w)
theorem lw_k17 (hc : zOK cx gg cL_law RL 4) (hR : zR cx 9 328) {b L i m : Nat} {xs : Nat → Int32} {N : Nat → Nat} (hX : zLw cx b L xs) (hL : L ≤ 3072) (hi : i + 6 ≤ L) (h : zCP σ N m) (next : ∀ u : zS, (∃ N m, zCP u N m) → J cx gg Q u 952 [some (.ref b), some (.ref (zo gg)), some (.ref (zM gg)), some (.int (nI i))] []) : J cx gg Q σ 793 [some (.ref b), some (.ref (zo gg)), some (.ref (zM gg)), some (.int (nI i))] [] := by
  refine J_aloadn_1 (pc := 793) hc dL_law_793 ?_
  refine kL_86 (pc := 794) hc hR dL_law_794 (c_X3_clear) (by decide) (Nat.le_of_ble_eq_true rfl) rfl (fun r1 u1 p => ?_)
  have p : zP3_clear σ  r1 u1 := p
  have fr : zfrC σ u1 := zf_clear p
  refine J_aloadn_2 (pc := 797) hc dL_law_797 ?_
  refine kL_90 (pc := 798) hc hR dL_law_798 (c_X4_clear) (by decide) (Nat.le_of_ble_eq_true rfl) rfl (fun r2 u2 q => ?_)
  have q : zP4_clear u1  r2 u2 := q
  have g := zk_clear h p q
  exact J_icmp_eq (pc := 801) hc 952 dL_law_801 (by decide) (fun _ => next u2 g.2) (fun w => absurd g.1 w)
theorem lw_k18 (hc : zOK cx gg cL_law RL 4) (hR : zR cx 9 328) {b L i m : Nat} {xs : Nat → Int32} {N : Nat → Nat} (hX : zLw cx b L xs) (hL : L ≤ 3072) (hi : i + 6 ≤ L) (h : zCP σ N m) (next : ∀ u : zS, (∃ N m, zCP u N m) → J cx gg Q u 952 [some (.ref b), some (.ref (zo gg)), some (.ref (zM gg)), some (.int (nI i))] []) : J cx gg Q σ 806 [some (.ref b), some (.ref (zo gg)), some (.ref (zM gg)), some (.int (nI i))] [] := by
  refine J_aloadn_1 (pc := 806) hc dL_law_806 ?_
  refine J_arg (pc := 807) (k := 1) hc hX (by decide) (by omega) hL dL_law_807 dL_law_808 dL_law_809 dL_law_810 dL_law_811 ?_
  refine J_arg (pc := 812) (k := 2) hc hX (by decide) (by omega) hL dL_law_812 dL_law_813 dL_law_814 dL_law_815 dL_law_816 ?_
  refine kL_91 (pc := 817) hc hR dL_law_817 (c_X3_slopes h.2.2.2.2.1 h.2.2.2.1) (by decide) (Nat.le_of_ble_eq_true rfl) rfl (fun r1 u1 p => ?_)
  have p : zP3_slopes σ (xs (i + 1)) (xs (i + 2)) m r1 u1 := p
  have fr : zfrC σ u1 := zf_slopes p
  refine J_aloadn_2 (pc := 820) hc dL_law_820 ?_
  refine J_arg (pc := 821) (k := 1) hc hX (by decide) (by omega) hL dL_law_821 dL_law_822 dL_law_823 dL_law_824 dL_law_825 ?_
  refine J_arg (pc := 826) (k := 2) hc hX (by decide) (by omega) hL dL_law_826 dL_law_827 dL_law_828 dL_law_829 dL_law_830 ?_
  refine kL_94 (pc := 831) hc hR dL_law_831 (c_X4_slopes (zCP_af h fr).2 h.2.2.2.1) (by decide) (Nat.le_of_ble_eq_true rfl) rfl (fun r2 u2 q => ?_)
  have q : zP4_slopes u1 (xs (i + 1)) (xs (i + 2)) m r2 u2 := q
  have g := zk_slopes h p q
  exact J_icmp_eq (pc := 834) hc 952 dL_law_834 (by decide) (fun _ => next u2 g.2) (fun w => absurd g.1 w)
theorem lw_k19 (hc : zOK cx gg cL_law RL 4) (hR : zR cx 9 328) {b L i m : Nat} {xs : Nat → Int32} {N : Nat → Nat} (hX : zLw cx b L xs) (hL : L ≤ 3072) (hi : i + 6 ≤ L) (h : zCP σ N m) (next : ∀ u : zS, (∃ N m, zCP u N m) → J cx gg Q u 952 [some (.ref b), some (.ref (zo gg)), some (.ref (zM gg)), some (.int (nI i))] []) : J cx gg Q σ 839 [some (.ref b), some (.ref (zo gg)), some (.ref (zM gg)), some (.int (nI i))] [] := by
  refine J_aloadn_1 (pc := 839) hc dL_law_839 ?_
  refine J_arg (pc := 840) (k := 1) hc hX (by decide) (by omega) hL dL_law_840 dL_law_841 dL_law_842 dL_law_843 dL_law_844 ?_
  refine kL_95 (pc := 845) hc hR dL_law_845 (c_X3_best h.2.2.2.2.1 h.2.2.2.1) (by decide) (Nat.le_of_ble_eq_true rfl) rfl (fun r1 u1 p => ?_)
  have p : zP3_best σ (xs (i + 1)) m r1 u1 := p
  have fr : zfrC σ u1 := zf_best p
  refine J_aloadn_2 (pc := 848) hc dL_law_848 ?_
  refine J_arg (pc := 849) (k := 1) hc hX (by decide) (by omega) hL dL_law_849 dL_law_850 dL_law_851 dL_law_852 dL_law_853 ?_
  refine kL_98 (pc := 854) hc hR dL_law_854 (c_X4_best (zCP_af h fr).2 h.2.2.2.1) (by decide) (Nat.le_of_ble_eq_true rfl) rfl (fun r2 u2 q => ?_)
  have q : zP4_best u1 (xs (i + 1)) m r2 u2 := q
  have g := zk_best h p q
  exact J_icmp_eq (pc := 857) hc 952 dL_law_857 (by decide) (fun _ => next u2 g.2) (fun w => absurd g.1 w)
theorem lw_k20 (hc : zOK cx gg cL_law RL 4) (hR : zR cx 9 328) {b L i m : Nat} {xs : Nat → Int32} {N : Nat → Nat} (hX : zLw cx b L xs) (hL : L ≤ 3072) (hi : i + 6 ≤ L) (h : zCP σ N m) (next : ∀ u : zS, (∃ N m, zCP u N m) → J cx gg Q u 952 [some (.ref b), some (.ref (zo gg)), some (.ref (zM gg)), some (.int (nI i))] []) : J cx gg Q σ 862 [some (.ref b), some (.ref (zo gg)), some (.ref (zM gg)), some (.int (nI i))] [] := by
  refine J_aloadn_1 (pc := 862) hc dL_law_862 ?_
  refine J_arg (pc := 863) (k := 1) hc hX (by decide) (by omega) hL dL_law_863 dL_law_864 dL_law_865 dL_law_866 dL_law_867 ?_
  refine kL_99 (pc := 868) hc hR dL_law_868 (c_X3_bend h.2.2.2.2.1 h.2.2.2.1) (by decide) (Nat.le_of_ble_eq_true rfl) rfl (fun r1 u1 p => ?_)
  have p : zP3_bend σ (xs (i + 1)) m r1 u1 := p
  have fr : zfrC σ u1 := zf_bend p
  refine J_aloadn_2 (pc := 871) hc dL_law_871 ?_
  refine J_arg (pc := 872) (k := 1) hc hX (by decide) (by omega) hL dL_law_872 dL_law_873 dL_law_874 dL_law_875 dL_law_876 ?_
  refine kL_103 (pc := 877) hc hR dL_law_877 (c_X4_bend (zCP_af h fr).2 h.2.2.2.1) (by decide) (Nat.le_of_ble_eq_true rfl) rfl (fun r2 u2 q => ?_)
  have q : zP4_bend u1 (xs (i + 1)) m r2 u2 := q
  have g := zk_bend h p q
  exact J_lcmp_eq (pc := 880) hc 952 dL_law_880 dL_law_881 (by decide) (fun _ => next u2 g.2) (fun w => absurd g.1 w)
theorem lw_k21 (hc : zOK cx gg cL_law RL 4) (hR : zR cx 9 328) {b L i m : Nat} {xs : Nat → Int32} {N : Nat → Nat} (hX : zLw cx b L xs) (hL : L ≤ 3072) (hi : i + 6 ≤ L) (h : zCP σ N m) (next : ∀ u : zS, (∃ N m, zCP u N m) → J cx gg Q u 952 [some (.ref b), some (.ref (zo gg)), some (.ref (zM gg)), some (.int (nI i))] []) : J cx gg Q σ 886 [some (.ref b), some (.ref (zo gg)), some (.ref (zM gg)), some (.int (nI i))] [] := by
  refine J_aloadn_1 (pc := 886) hc dL_law_886 ?_
  refine J_arg (pc := 887) (k := 1) hc hX (by decide) (by omega) hL dL_law_887 dL_law_888 dL_law_889 dL_law_890 dL_law_891 ?_
  refine J_arg (pc := 892) (k := 2) hc hX (by decide) (by omega) hL dL_law_892 dL_law_893 dL_law_894 dL_law_895 dL_law_896 ?_
  refine kL_104 (pc := 897) hc hR dL_law_897 (c_X3_spline h.2.2.2.2.1 h.2.2.2.1) (by decide) (Nat.le_of_ble_eq_true rfl) rfl (fun r1 u1 p => ?_)
  have p : zP3_spline σ (xs (i + 1)) (xs (i + 2)) m r1 u1 := p
  have fr : zfrC σ u1 := zf_spline p
  refine J_aloadn_2 (pc := 900) hc dL_law_900 ?_
  refine J_arg (pc := 901) (k := 1) hc hX (by decide) (by omega) hL dL_law_901 dL_law_902 dL_law_903 dL_law_904 dL_law_905 ?_
  refine J_arg (pc := 906) (k := 2) hc hX (by decide) (by omega) hL dL_law_906 dL_law_907 dL_law_908 dL_law_909 dL_law_910 ?_
  refine kL_107 (pc := 911) hc hR dL_law_911 (c_X4_spline (zCP_af h fr).2 h.2.2.2.1) (by decide) (Nat.le_of_ble_eq_true rfl) rfl (fun r2 u2 q => ?_)
  have q : zP4_spline u1 (xs (i + 1)) (xs (i + 2)) m r2 u2 := q
  have g := zk_spline h p q
  exact J_icmp_eq (pc := 914) hc 952 dL_law_914 (by decide) (fun _ => next u2 g.2) (fun w => absurd g.1 w)
theorem lw_k22 (hc : zOK cx gg cL_law RL 4) (hR : zR cx 9 328) {b L i m : Nat} {xs : Nat → Int32} {N : Nat → Nat} (hX : zLw cx b L xs) (hL : L ≤ 3072) (hi : i + 6 ≤ L) (h : zCP σ N m) (next : ∀ u : zS, (∃ N m, zCP u N m) → J cx gg Q u 952 [some (.ref b), some (.ref (zo gg)), some (.ref (zM gg)), some (.int (nI i))] []) : J cx gg Q σ 919 [some (.ref b), some (.ref (zo gg)), some (.ref (zM gg)), some (.int (nI i))] [] := by
  refine J_aloadn_1 (pc := 919) hc dL_law_919 ?_
  refine J_arg (pc := 920) (k := 1) hc hX (by decide) (by omega) hL dL_law_920 dL_law_921 dL_law_922 dL_law_923 dL_law_924 ?_
  refine J_arg (pc := 925) (k := 2) hc hX (by decide) (by omega) hL dL_law_925 dL_law_926 dL_law_927 dL_law_928 dL_law_929 ?_
  refine kL_108 (pc := 930) hc hR dL_law_930 (c_X3_count h.1) (by decide) (Nat.le_of_ble_eq_true rfl) rfl (fun r1 u1 p => ?_)
  have p : zP3_count σ (xs (i + 1)) (xs (i + 2)) N r1 u1 := p
  have fr : zfrC σ u1 := zfq p.1
  refine J_aloadn_2 (pc := 933) hc dL_law_933 ?_
  refine J_arg (pc := 934) (k := 1) hc hX (by decide) (by omega) hL dL_law_934 dL_law_935 dL_law_936 dL_law_937 dL_law_938 ?_
  refine J_arg (pc := 939) (k := 2) hc hX (by decide) (by omega) hL dL_law_939 dL_law_940 dL_law_941 dL_law_942 dL_law_943 ?_
  refine kL_111 (pc := 944) hc hR dL_law_944 (c_X4_count (zCP_af h fr).1) (by decide) (Nat.le_of_ble_eq_true rfl) rfl (fun r2 u2 q => ?_)
  have q : zP4_count u1 (xs (i + 1)) (xs (i + 2)) N r2 u2 := q
  have g := zk_count h p q
  exact J_icmp_eq (pc := 947) hc 952 dL_law_947 (by decide) (fun _ => next u2 g.2) (fun w => absurd g.1 w)
/-! its loop -/
theorem lw_loop (hc : zOK cx gg cL_law RL 4) (hR : zR cx 9 328) {b L : Nat} {xs : Nat → Int32} (hX : zLw cx b L xs) (hL : L ≤ 3072) (hend : ∀ (u : zS) (i : Nat), J cx gg Q u 958 [some (.ref b), some (.ref (zo gg)), some (.ref (zM gg)), some (.int (nI i))] []) : ∀ (μ i : Nat), L + 6 - i = μ → i ≤ L → ∀ (σ : zS), (∃ N m, zCP σ N m) → J cx gg Q σ 18 [some (.ref b), some (.ref (zo gg)), some (.ref (zM gg)), some (.int (nI i))] [] := by
  intro μ
  induction μ using Nat.strongRecOn with
  | ind μ ih =>
    intro i hμ hiL σ hcp
    obtain ⟨N, m, h⟩ := hcp
    refine J_iloadn_3 (pc := 18) hc dL_law_18 ?_
    refine J_aloadn_0 (pc := 19) hc dL_law_19 ?_
    refine J_slen (pc := 20) hc hX dL_law_20 ?_
    refine J_bipush (pc := 21) hc dL_law_21 (v := 6) (by decide) ?_
    refine J_isub (pc := 23) hc dL_law_23 ?_
    have e6 : (nI L - 6).toInt = (L : Int) - 6 := by
      rw [Int32.toInt_sub, nI_toInt (by omega), show (6 : Int32).toInt = 6 by decide, Int.bmod_eq_of_le (by omega) (by omega)]
    refine J_icmp_gt (pc := 24) hc 958 dL_law_24 (by decide) (fun _ => hend σ i) (fun w => ?_)
    rw [zi_lt, e6, nI_toInt (by omega)] at w
    have hi : i + 6 ≤ L := by omega
    refine J_aloadn_0 (pc := 27) hc dL_law_27 ?_
    refine J_iloadn_3 (pc := 28) hc dL_law_28 ?_
    refine J_sld (pc := 29) hc hX (by omega) hL dL_law_29 ?_
    refine J_bipush (pc := 30) hc dL_law_30 (v := 31) (by decide) ?_
    refine J_iand (pc := 32) hc dL_law_32 ?_
    have next : ∀ u : zS, (∃ N m, zCP u N m) → J cx gg Q u 952 [some (.ref b), some (.ref (zo gg)), some (.ref (zM gg)), some (.int (nI i))] [] := fun u hu => by
      refine J_iinc_3 (pc := 952) (w := nI (i + 6)) hc dL_law_952 (nI_add i 6) rfl ?_
      refine J_goto (pc := 955) hc 18 dL_law_955 (by decide) ?_
      exact ih (L + 6 - (i + 6)) (by omega) (i + 6) rfl (by omega) u hu
    by_cases hx : 0 ≤ (xs i &&& 31).toInt ∧ (xs i &&& 31).toInt ≤ 22
    · rcases (show (xs i &&& 31).toInt = ((0 : Nat) : Int) ∨ (xs i &&& 31).toInt = ((1 : Nat) : Int) ∨ (xs i &&& 31).toInt = ((2 : Nat) : Int) ∨ (xs i &&& 31).toInt = ((3 : Nat) : Int) ∨ (xs i &&& 31).toInt = ((4 : Nat) : Int) ∨ (xs i &&& 31).toInt = ((5 : Nat) : Int) ∨ (xs i &&& 31).toInt = ((6 : Nat) : Int) ∨ (xs i &&& 31).toInt = ((7 : Nat) : Int) ∨ (xs i &&& 31).toInt = ((8 : Nat) : Int) ∨ (xs i &&& 31).toInt = ((9 : Nat) : Int) ∨ (xs i &&& 31).toInt = ((10 : Nat) : Int) ∨ (xs i &&& 31).toInt = ((11 : Nat) : Int) ∨ (xs i &&& 31).toInt = ((12 : Nat) : Int) ∨ (xs i &&& 31).toInt = ((13 : Nat) : Int) ∨ (xs i &&& 31).toInt = ((14 : Nat) : Int) ∨ (xs i &&& 31).toInt = ((15 : Nat) : Int) ∨ (xs i &&& 31).toInt = ((16 : Nat) : Int) ∨ (xs i &&& 31).toInt = ((17 : Nat) : Int) ∨ (xs i &&& 31).toInt = ((18 : Nat) : Int) ∨ (xs i &&& 31).toInt = ((19 : Nat) : Int) ∨ (xs i &&& 31).toInt = ((20 : Nat) : Int) ∨ (xs i &&& 31).toInt = ((21 : Nat) : Int) ∨ (xs i &&& 31).toInt = ((22 : Nat) : Int) by omega) with q | q | q | q | q | q | q | q | q | q | q | q | q | q | q | q | q | q | q | q | q | q | q
      · exact J_tswI (pc := 33) (j := 0) hc 140 dL_law_33 q (by decide) rfl (by decide) (lw_k0 hc hR hX hL hi h next)
      · exact J_tswI (pc := 33) (j := 1) hc 173 dL_law_33 q (by decide) rfl (by decide) (lw_k1 hc hR hX hL hi h next)
      · exact J_tswI (pc := 33) (j := 2) hc 236 dL_law_33 q (by decide) rfl (by decide) (lw_k2 hc hR hX hL hi h next)
      · exact J_tswI (pc := 33) (j := 3) hc 279 dL_law_33 q (by decide) rfl (by decide) (lw_k3 hc hR hX hL hi h next)
      · exact J_tswI (pc := 33) (j := 4) hc 333 dL_law_33 q (by decide) rfl (by decide) (lw_k4 hc hR hX hL hi h next)
      · exact J_tswI (pc := 33) (j := 5) hc 366 dL_law_33 q (by decide) rfl (by decide) (lw_k5 hc hR hX hL hi h next)
      · exact J_tswI (pc := 33) (j := 6) hc 399 dL_law_33 q (by decide) rfl (by decide) (lw_k6 hc hR hX hL hi h next)
      · exact J_tswI (pc := 33) (j := 7) hc 432 dL_law_33 q (by decide) rfl (by decide) (lw_k7 hc hR hX hL hi h next)
      · exact J_tswI (pc := 33) (j := 8) hc 455 dL_law_33 q (by decide) rfl (by decide) (lw_k8 hc hR hX hL hi h next)
      · exact J_tswI (pc := 33) (j := 9) hc 488 dL_law_33 q (by decide) rfl (by decide) (lw_k9 hc hR hX hL hi h next)
      · exact J_tswI (pc := 33) (j := 10) hc 542 dL_law_33 q (by decide) rfl (by decide) (lw_k10 hc hR hX hL hi h next)
      · exact J_tswI (pc := 33) (j := 11) hc 575 dL_law_33 q (by decide) rfl (by decide) (lw_k11 hc hR hX hL hi h next)
      · exact J_tswI (pc := 33) (j := 12) hc 608 dL_law_33 q (by decide) rfl (by decide) (lw_k12 hc hR hX hL hi h next)
      · exact J_tswI (pc := 33) (j := 13) hc 671 dL_law_33 q (by decide) rfl (by decide) (lw_k13 hc hR hX hL hi h next)
      · exact J_tswI (pc := 33) (j := 14) hc 704 dL_law_33 q (by decide) rfl (by decide) (lw_k14 hc hR hX hL hi h next)
      · exact J_tswI (pc := 33) (j := 15) hc 737 dL_law_33 q (by decide) rfl (by decide) (lw_k15 hc hR hX hL hi h next)
      · exact J_tswI (pc := 33) (j := 16) hc 770 dL_law_33 q (by decide) rfl (by decide) (lw_k16 hc hR hX hL hi h next)
      · exact J_tswI (pc := 33) (j := 17) hc 793 dL_law_33 q (by decide) rfl (by decide) (lw_k17 hc hR hX hL hi h next)
      · exact J_tswI (pc := 33) (j := 18) hc 806 dL_law_33 q (by decide) rfl (by decide) (lw_k18 hc hR hX hL hi h next)
      · exact J_tswI (pc := 33) (j := 19) hc 839 dL_law_33 q (by decide) rfl (by decide) (lw_k19 hc hR hX hL hi h next)
      · exact J_tswI (pc := 33) (j := 20) hc 862 dL_law_33 q (by decide) rfl (by decide) (lw_k20 hc hR hX hL hi h next)
      · exact J_tswI (pc := 33) (j := 21) hc 886 dL_law_33 q (by decide) rfl (by decide) (lw_k21 hc hR hX hL hi h next)
      · exact J_tswI (pc := 33) (j := 22) hc 919 dL_law_33 q (by decide) rfl (by decide) (lw_k22 hc hR hX hL hi h next)
    · exact J_tswD (pc := 33) hc 952 dL_law_33 (by omega) (by decide) (next σ ⟨N, m, h⟩)
end ZLAW
