theorem lwCst : (Cond.constantLong RL 172 (4294967295 : Int64)) ∈ wsL_law := List.mem_of_getElem? (i := 7) rfl
set_option maxHeartbeats 1000000 in
set_option maxRecDepth 100000 in
theorem lwc_append {p : Program} {l : Launch} {e : Env} {s : State} {m : MethodId} {below : List Frame} {meth : Method} {c : Code} {b0 L : Nat} {xs : Nat → Int32} {D : va_G} {K : Nat → ClassId} {b t x y : Nat → Nat} {α : Nat → Nat → Nat} {o : Nat} {a : Nat → Nat} (hL : L ≤ 2048) (C : lwC p l s m meth c b0 L xs D K) : lwCase p l e s m b0 below meth c L D K b t x y α o a 156 := by
  intro T s1 f r1 H locs ls i k n hTop hT3 hi h hl hk hn KK
  obtain ⟨hx, hb, hr, hml, hown, hts, hX, hbl, hlocks, hK, hgX, hN, hfl⟩ := id C
  obtain ⟨A, hA⟩ := hTop
  obtain ⟨res, v, s2, r2, e1, e2, hT2, hcd, hout⟩ := Step_res (fun z => cdL_le _ _ z) (append_step hA (xs (i + 1)))
  refine lv_aload_n hx hb dL_law_156 rfl (lv_at hl 1 rfl) ?_
  refine lw_arg (j := 1) C h (lv_at hl 0 rfl) (lv_at hl 4 rfl) (by omega) hL rfl dL_law_157 dL_law_158 dL_law_160 dL_law_161 dL_law_162 ?_
  refine lv_aload_n hx hb dL_law_163 rfl (lv_at hl 3 rfl) ?_
  refine lw_static (na := 3) (argv := [.ref (b 0), .int (xs (i + 1)), .ref o]) C h (mL_append l hfl D K b t x y α o (s1, f) (xs (i + 1)) res e1 hcd) gL_law_L_append rfl (by decide) ⟨Nat.le_of_ble_eq_true rfl, Nat.le_of_ble_eq_true rfl⟩ rfl rfl hl.1 dL_law_164 hk hn (fun w u H1 locs1 hw h1 => ?_)
  obtain ⟨u1, f2⟩ := u
  obtain ⟨g1, g2, g3⟩ := hout w (s1, f) (u1, f2) hw
  have g1 : u1 = s2 := g1
  subst g1
  refine lv_istore (lv' := [(5, .int w), (0, .ref b0), (1, .ref (b 0)), (2, .ref (a 0)), (3, .ref o), (4, .int (nI i))]) hx hb dL_law_167 hl (by decide) rfl (fun ls hl => ?_)
  refine lv_aload_n hx hb dL_law_169 rfl (lv_at hl 3 rfl) ?_
  refine lw_arg (j := 1) C h1 (lv_at hl 1 rfl) (lv_at hl 5 rfl) (by omega) hL rfl dL_law_170 dL_law_171 dL_law_173 dL_law_174 dL_law_175 ?_
  refine lw_model (na := 1) (As := [.int (xs (i + 1))]) C h1 (mX4_append l D K a r1 (xs (i + 1)) (v, r2) e2) gL_law_X4_append rfl (by decide) ⟨Nat.le_of_ble_eq_true rfl, Nat.le_of_ble_eq_true rfl, rfl, rfl⟩ rfl rfl hl.1 (Nat.le_of_ble_eq_true rfl) dL_law_176 hk hn (fun H2 locs2 h2 => ?_)
  refine lv_istore (lv' := [(6, .int v), (5, .int w), (0, .ref b0), (1, .ref (b 0)), (2, .ref (a 0)), (3, .ref o), (4, .int (nI i))]) hx hb dL_law_179 hl (by decide) rfl (fun ls hl => ?_)
  refine lw_tail (tE := 209) C h2 hl g2 g3 hk hn rfl dL_law_181 dL_law_182 dL_law_185 dL_law_187 dL_law_192 dL_law_194 dL_law_197 dL_law_198 dL_law_199 dL_law_200 dL_law_202 dL_law_203 dL_law_204 dL_law_209 (by decide) (fun H3 locs3 h3 => ?_)
  exact KK T u1 f2 r2 H3 locs3 ls hT2 (by omega) h3 (lv_sub hl [2, 3, 4, 5, 6] rfl)
set_option maxHeartbeats 1000000 in
set_option maxRecDepth 100000 in
theorem lwc_clearText {p : Program} {l : Launch} {e : Env} {s : State} {m : MethodId} {below : List Frame} {meth : Method} {c : Code} {b0 L : Nat} {xs : Nat → Int32} {D : va_G} {K : Nat → ClassId} {b t x y : Nat → Nat} {α : Nat → Nat → Nat} {o : Nat} {a : Nat → Nat} (hL : L ≤ 2048) (C : lwC p l s m meth c b0 L xs D K) : lwCase p l e s m b0 below meth c L D K b t x y α o a 212 := by
  intro T s1 f r1 H locs ls i k n hTop hT3 hi h hl hk hn KK
  obtain ⟨hx, hb, hr, hml, hown, hts, hX, hbl, hlocks, hK, hgX, hN, hfl⟩ := id C
  obtain ⟨A, hA⟩ := hTop
  obtain ⟨v, s2, r2, e1, e2, hT2⟩ := clearText_step hA
  refine W.widen (k := k + 1) (n := n + 6) (by omega) (by omega) ?_
  refine lv_aload_n hx hb dL_law_212 rfl (lv_at hl 1 rfl) ?_
  refine lw_class (na := 0) (As := []) C h (mX3_clearText l D K b t x y α s1 (v, s2) e1) gL_law_X3_clearText rfl (by decide) ⟨Nat.le_of_ble_eq_true rfl, Nat.le_of_ble_eq_true rfl, rfl, rfl⟩ rfl rfl hl.1 (Nat.le_of_ble_eq_true rfl) dL_law_213 hk hn (fun H1 locs1 h1 => ?_)
  refine lv_aload_n hx hb dL_law_216 rfl (lv_at hl 2 rfl) ?_
  refine lw_model (na := 0) (As := []) C h1 (mX4_clearText l D K a r1 (v, r2) e2) gL_law_X4_clearText rfl (by decide) ⟨Nat.le_of_ble_eq_true rfl, Nat.le_of_ble_eq_true rfl, rfl, rfl⟩ rfl rfl hl.1 (Nat.le_of_ble_eq_true rfl) dL_law_217 hk hn (fun H2 locs2 h2 => ?_)
  refine lv_icmp_eq (tgt := 1659) hx hb dL_law_220 (by decide) (fun _ => ?_) (fun q => absurd rfl q)
  exact KK T s2 f r2 H2 locs2 ls hT2 (by omega) h2 hl
set_option maxHeartbeats 1000000 in
set_option maxRecDepth 100000 in
theorem lwc_errorPosition {p : Program} {l : Launch} {e : Env} {s : State} {m : MethodId} {below : List Frame} {meth : Method} {c : Code} {b0 L : Nat} {xs : Nat → Int32} {D : va_G} {K : Nat → ClassId} {b t x y : Nat → Nat} {α : Nat → Nat → Nat} {o : Nat} {a : Nat → Nat} (hL : L ≤ 2048) (C : lwC p l s m meth c b0 L xs D K) : lwCase p l e s m b0 below meth c L D K b t x y α o a 225 := by
  intro T s1 f r1 H locs ls i k n hTop hT3 hi h hl hk hn KK
  obtain ⟨hx, hb, hr, hml, hown, hts, hX, hbl, hlocks, hK, hgX, hN, hfl⟩ := id C
  obtain ⟨A, hA⟩ := hTop
  obtain ⟨v, s2, r2, e1, e2, hT2⟩ := errorPosition_step hA
  refine W.widen (k := k + 1) (n := n + 6) (by omega) (by omega) ?_
  refine lv_aload_n hx hb dL_law_225 rfl (lv_at hl 1 rfl) ?_
  refine lw_class (na := 0) (As := []) C h (mX3_errorPosition l D K b t x y α s1 (v, s2) e1) gL_law_X3_errorPosition rfl (by decide) ⟨Nat.le_of_ble_eq_true rfl, Nat.le_of_ble_eq_true rfl, rfl, rfl⟩ rfl rfl hl.1 (Nat.le_of_ble_eq_true rfl) dL_law_226 hk hn (fun H1 locs1 h1 => ?_)
  refine lv_aload_n hx hb dL_law_229 rfl (lv_at hl 2 rfl) ?_
  refine lw_model (na := 0) (As := []) C h1 (mX4_errorPosition l D K a r1 (v, r2) e2) gL_law_X4_errorPosition rfl (by decide) ⟨Nat.le_of_ble_eq_true rfl, Nat.le_of_ble_eq_true rfl, rfl, rfl⟩ rfl rfl hl.1 (Nat.le_of_ble_eq_true rfl) dL_law_230 hk hn (fun H2 locs2 h2 => ?_)
  refine lv_icmp_eq (tgt := 1659) hx hb dL_law_233 (by decide) (fun _ => ?_) (fun q => absurd rfl q)
  exact KK T s2 f r2 H2 locs2 ls hT2 (by omega) h2 hl
set_option maxHeartbeats 1000000 in
set_option maxRecDepth 100000 in
theorem lwc_load {p : Program} {l : Launch} {e : Env} {s : State} {m : MethodId} {below : List Frame} {meth : Method} {c : Code} {b0 L : Nat} {xs : Nat → Int32} {D : va_G} {K : Nat → ClassId} {b t x y : Nat → Nat} {α : Nat → Nat → Nat} {o : Nat} {a : Nat → Nat} (hL : L ≤ 2048) (C : lwC p l s m meth c b0 L xs D K) : lwCase p l e s m b0 below meth c L D K b t x y α o a 238 := by
  intro T s1 f r1 H locs ls i k n hTop hT3 hi h hl hk hn KK
  obtain ⟨hx, hb, hr, hml, hown, hts, hX, hbl, hlocks, hK, hgX, hN, hfl⟩ := id C
  obtain ⟨A, hA⟩ := hTop
  obtain ⟨res, v, s2, r2, e1, e2, hT2, hcd, hout⟩ := Step_res (fun z => cdL_le _ _ z) (load_step hA)
  refine lv_aload_n hx hb dL_law_238 rfl (lv_at hl 1 rfl) ?_
  refine lv_aload_n hx hb dL_law_239 rfl (lv_at hl 3 rfl) ?_
  refine lw_static (na := 2) (argv := [.ref (b 0), .ref o]) C h (mL_load l hfl D K b t x y α o (s1, f) res e1 hcd) gL_law_L_load rfl (by decide) ⟨Nat.le_of_ble_eq_true rfl, Nat.le_of_ble_eq_true rfl⟩ rfl rfl hl.1 dL_law_240 hk hn (fun w u H1 locs1 hw h1 => ?_)
  obtain ⟨u1, f2⟩ := u
  obtain ⟨g1, g2, g3⟩ := hout w (s1, f) (u1, f2) hw
  have g1 : u1 = s2 := g1
  subst g1
  refine lv_istore (lv' := [(5, .int w), (0, .ref b0), (1, .ref (b 0)), (2, .ref (a 0)), (3, .ref o), (4, .int (nI i))]) hx hb dL_law_243 hl (by decide) rfl (fun ls hl => ?_)
  refine lv_aload_n hx hb dL_law_245 rfl (lv_at hl 3 rfl) ?_
  refine lw_model (na := 0) (As := []) C h1 (mX4_load l D K a r1 (v, r2) e2) gL_law_X4_load rfl (by decide) ⟨Nat.le_of_ble_eq_true rfl, Nat.le_of_ble_eq_true rfl, rfl, rfl⟩ rfl rfl hl.1 (Nat.le_of_ble_eq_true rfl) dL_law_246 hk hn (fun H2 locs2 h2 => ?_)
  refine lv_istore (lv' := [(6, .int v), (5, .int w), (0, .ref b0), (1, .ref (b 0)), (2, .ref (a 0)), (3, .ref o), (4, .int (nI i))]) hx hb dL_law_249 hl (by decide) rfl (fun ls hl => ?_)
  refine lw_tail (tE := 279) C h2 hl g2 g3 hk hn rfl dL_law_251 dL_law_252 dL_law_255 dL_law_257 dL_law_262 dL_law_264 dL_law_267 dL_law_268 dL_law_269 dL_law_270 dL_law_272 dL_law_273 dL_law_274 dL_law_279 (by decide) (fun H3 locs3 h3 => ?_)
  exact KK (T + 3240) u1 f2 r2 H3 locs3 ls hT2 (by omega) h3 (lv_sub hl [2, 3, 4, 5, 6] rfl)
set_option maxHeartbeats 1000000 in
set_option maxRecDepth 100000 in
theorem lwc_about {p : Program} {l : Launch} {e : Env} {s : State} {m : MethodId} {below : List Frame} {meth : Method} {c : Code} {b0 L : Nat} {xs : Nat → Int32} {D : va_G} {K : Nat → ClassId} {b t x y : Nat → Nat} {α : Nat → Nat → Nat} {o : Nat} {a : Nat → Nat} (hL : L ≤ 2048) (C : lwC p l s m meth c b0 L xs D K) : lwCase p l e s m b0 below meth c L D K b t x y α o a 282 := by
  intro T s1 f r1 H locs ls i k n hTop hT3 hi h hl hk hn KK
  obtain ⟨hx, hb, hr, hml, hown, hts, hX, hbl, hlocks, hK, hgX, hN, hfl⟩ := id C
  obtain ⟨A, hA⟩ := hTop
  obtain ⟨res, v, s2, r2, e1, e2, hT2, hcd, hout⟩ := Step_res (fun z => cdL_le _ _ z) (about_step hA (xs (i + 1)))
  refine lv_aload_n hx hb dL_law_282 rfl (lv_at hl 1 rfl) ?_
  refine lw_arg (j := 1) C h (lv_at hl 0 rfl) (lv_at hl 4 rfl) (by omega) hL rfl dL_law_283 dL_law_284 dL_law_286 dL_law_287 dL_law_288 ?_
  refine lv_aload_n hx hb dL_law_289 rfl (lv_at hl 3 rfl) ?_
  refine lw_static (na := 3) (argv := [.ref (b 0), .int (xs (i + 1)), .ref o]) C h (mL_about l hfl D K b t x y α o (s1, f) (xs (i + 1)) res e1 hcd) gL_law_L_about rfl (by decide) ⟨Nat.le_of_ble_eq_true rfl, Nat.le_of_ble_eq_true rfl⟩ rfl rfl hl.1 dL_law_290 hk hn (fun w u H1 locs1 hw h1 => ?_)
  obtain ⟨u1, f2⟩ := u
  obtain ⟨g1, g2, g3⟩ := hout w (s1, f) (u1, f2) hw
  have g1 : u1 = s2 := g1
  subst g1
  refine lv_istore (lv' := [(5, .int w), (0, .ref b0), (1, .ref (b 0)), (2, .ref (a 0)), (3, .ref o), (4, .int (nI i))]) hx hb dL_law_293 hl (by decide) rfl (fun ls hl => ?_)
  refine lv_aload_n hx hb dL_law_295 rfl (lv_at hl 3 rfl) ?_
  refine lw_arg (j := 1) C h1 (lv_at hl 1 rfl) (lv_at hl 5 rfl) (by omega) hL rfl dL_law_296 dL_law_297 dL_law_299 dL_law_300 dL_law_301 ?_
  refine lw_model (na := 1) (As := [.int (xs (i + 1))]) C h1 (mX4_about l D K a r1 (xs (i + 1)) (v, r2) e2) gL_law_X4_about rfl (by decide) ⟨Nat.le_of_ble_eq_true rfl, Nat.le_of_ble_eq_true rfl, rfl, rfl⟩ rfl rfl hl.1 (Nat.le_of_ble_eq_true rfl) dL_law_302 hk hn (fun H2 locs2 h2 => ?_)
  refine lv_istore (lv' := [(6, .int v), (5, .int w), (0, .ref b0), (1, .ref (b 0)), (2, .ref (a 0)), (3, .ref o), (4, .int (nI i))]) hx hb dL_law_305 hl (by decide) rfl (fun ls hl => ?_)
  refine lw_tail (tE := 335) C h2 hl g2 g3 hk hn rfl dL_law_307 dL_law_308 dL_law_311 dL_law_313 dL_law_318 dL_law_320 dL_law_323 dL_law_324 dL_law_325 dL_law_326 dL_law_328 dL_law_329 dL_law_330 dL_law_335 (by decide) (fun H3 locs3 h3 => ?_)
  exact KK T u1 f2 r2 H3 locs3 ls hT2 (by omega) h3 (lv_sub hl [2, 3, 4, 5, 6] rfl)
set_option maxHeartbeats 1000000 in
set_option maxRecDepth 100000 in
theorem lwc_book {p : Program} {l : Launch} {e : Env} {s : State} {m : MethodId} {below : List Frame} {meth : Method} {c : Code} {b0 L : Nat} {xs : Nat → Int32} {D : va_G} {K : Nat → ClassId} {b t x y : Nat → Nat} {α : Nat → Nat → Nat} {o : Nat} {a : Nat → Nat} (hL : L ≤ 2048) (C : lwC p l s m meth c b0 L xs D K) : lwCase p l e s m b0 below meth c L D K b t x y α o a 338 := by
  intro T s1 f r1 H locs ls i k n hTop hT3 hi h hl hk hn KK
  obtain ⟨hx, hb, hr, hml, hown, hts, hX, hbl, hlocks, hK, hgX, hN, hfl⟩ := id C
  obtain ⟨A, hA⟩ := hTop
  obtain ⟨res, v, s2, r2, e1, e2, hT2, hcd, hout⟩ := Step_res (fun z => cdL_le _ _ z) (book_step hA (xs (i + 1)) (xs (i + 2)))
  refine lv_aload_n hx hb dL_law_338 rfl (lv_at hl 1 rfl) ?_
  refine lw_arg (j := 1) C h (lv_at hl 0 rfl) (lv_at hl 4 rfl) (by omega) hL rfl dL_law_339 dL_law_340 dL_law_342 dL_law_343 dL_law_344 ?_
  refine lw_arg (j := 2) C h (lv_at hl 0 rfl) (lv_at hl 4 rfl) (by omega) hL rfl dL_law_345 dL_law_346 dL_law_348 dL_law_349 dL_law_350 ?_
  refine lv_aload_n hx hb dL_law_351 rfl (lv_at hl 3 rfl) ?_
  refine lw_static (na := 4) (argv := [.ref (b 0), .int (xs (i + 1)), .int (xs (i + 2)), .ref o]) C h (mL_book l hfl D K b t x y α o (s1, f) (xs (i + 1)) (xs (i + 2)) res e1 hcd) gL_law_L_book rfl (by decide) ⟨Nat.le_of_ble_eq_true rfl, Nat.le_of_ble_eq_true rfl⟩ rfl rfl hl.1 dL_law_352 hk hn (fun w u H1 locs1 hw h1 => ?_)
  obtain ⟨u1, f2⟩ := u
  obtain ⟨g1, g2, g3⟩ := hout w (s1, f) (u1, f2) hw
  have g1 : u1 = s2 := g1
  subst g1
  refine lv_istore (lv' := [(5, .int w), (0, .ref b0), (1, .ref (b 0)), (2, .ref (a 0)), (3, .ref o), (4, .int (nI i))]) hx hb dL_law_355 hl (by decide) rfl (fun ls hl => ?_)
  refine lv_aload_n hx hb dL_law_357 rfl (lv_at hl 3 rfl) ?_
  refine lw_arg (j := 1) C h1 (lv_at hl 1 rfl) (lv_at hl 5 rfl) (by omega) hL rfl dL_law_358 dL_law_359 dL_law_361 dL_law_362 dL_law_363 ?_
  refine lw_arg (j := 2) C h1 (lv_at hl 1 rfl) (lv_at hl 5 rfl) (by omega) hL rfl dL_law_364 dL_law_365 dL_law_367 dL_law_368 dL_law_369 ?_
  refine lw_model (na := 2) (As := [.int (xs (i + 1)), .int (xs (i + 2))]) C h1 (mX4_book l D K a r1 (xs (i + 1)) (xs (i + 2)) (v, r2) e2) gL_law_X4_book rfl (by decide) ⟨Nat.le_of_ble_eq_true rfl, Nat.le_of_ble_eq_true rfl, rfl, rfl⟩ rfl rfl hl.1 (Nat.le_of_ble_eq_true rfl) dL_law_370 hk hn (fun H2 locs2 h2 => ?_)
  refine lv_istore (lv' := [(6, .int v), (5, .int w), (0, .ref b0), (1, .ref (b 0)), (2, .ref (a 0)), (3, .ref o), (4, .int (nI i))]) hx hb dL_law_373 hl (by decide) rfl (fun ls hl => ?_)
  refine lw_tail (tE := 403) C h2 hl g2 g3 hk hn rfl dL_law_375 dL_law_376 dL_law_379 dL_law_381 dL_law_386 dL_law_388 dL_law_391 dL_law_392 dL_law_393 dL_law_394 dL_law_396 dL_law_397 dL_law_398 dL_law_403 (by decide) (fun H3 locs3 h3 => ?_)
  exact KK T u1 f2 r2 H3 locs3 ls hT2 (by omega) h3 (lv_sub hl [2, 3, 4, 5, 6] rfl)
set_option maxHeartbeats 1000000 in
set_option maxRecDepth 100000 in
theorem lwc_visitor {p : Program} {l : Launch} {e : Env} {s : State} {m : MethodId} {below : List Frame} {meth : Method} {c : Code} {b0 L : Nat} {xs : Nat → Int32} {D : va_G} {K : Nat → ClassId} {b t x y : Nat → Nat} {α : Nat → Nat → Nat} {o : Nat} {a : Nat → Nat} (hL : L ≤ 2048) (C : lwC p l s m meth c b0 L xs D K) : lwCase p l e s m b0 below meth c L D K b t x y α o a 406 := by
  intro T s1 f r1 H locs ls i k n hTop hT3 hi h hl hk hn KK
  obtain ⟨hx, hb, hr, hml, hown, hts, hX, hbl, hlocks, hK, hgX, hN, hfl⟩ := id C
  obtain ⟨A, hA⟩ := hTop
  obtain ⟨res, v, s2, r2, e1, e2, hT2, hcd, hout⟩ := Step_res (fun z => cdL_le _ _ z) (visitor_step hA (xs (i + 1)) (xs (i + 2)))
  refine lv_aload_n hx hb dL_law_406 rfl (lv_at hl 1 rfl) ?_
  refine lw_arg (j := 1) C h (lv_at hl 0 rfl) (lv_at hl 4 rfl) (by omega) hL rfl dL_law_407 dL_law_408 dL_law_410 dL_law_411 dL_law_412 ?_
  refine lw_arg (j := 2) C h (lv_at hl 0 rfl) (lv_at hl 4 rfl) (by omega) hL rfl dL_law_413 dL_law_414 dL_law_416 dL_law_417 dL_law_418 ?_
  refine lv_aload_n hx hb dL_law_419 rfl (lv_at hl 3 rfl) ?_
  refine lw_static (na := 4) (argv := [.ref (b 0), .int (xs (i + 1)), .int (xs (i + 2)), .ref o]) C h (mL_visitor l hfl D K b t x y α o (s1, f) (xs (i + 1)) (xs (i + 2)) res e1 hcd) gL_law_L_visitor rfl (by decide) ⟨Nat.le_of_ble_eq_true rfl, Nat.le_of_ble_eq_true rfl⟩ rfl rfl hl.1 dL_law_420 hk hn (fun w u H1 locs1 hw h1 => ?_)
  obtain ⟨u1, f2⟩ := u
  obtain ⟨g1, g2, g3⟩ := hout w (s1, f) (u1, f2) hw
  have g1 : u1 = s2 := g1
  subst g1
  refine lv_istore (lv' := [(5, .int w), (0, .ref b0), (1, .ref (b 0)), (2, .ref (a 0)), (3, .ref o), (4, .int (nI i))]) hx hb dL_law_423 hl (by decide) rfl (fun ls hl => ?_)
  refine lv_aload_n hx hb dL_law_425 rfl (lv_at hl 3 rfl) ?_
  refine lw_arg (j := 1) C h1 (lv_at hl 1 rfl) (lv_at hl 5 rfl) (by omega) hL rfl dL_law_426 dL_law_427 dL_law_429 dL_law_430 dL_law_431 ?_
  refine lw_arg (j := 2) C h1 (lv_at hl 1 rfl) (lv_at hl 5 rfl) (by omega) hL rfl dL_law_432 dL_law_433 dL_law_435 dL_law_436 dL_law_437 ?_
  refine lw_model (na := 2) (As := [.int (xs (i + 1)), .int (xs (i + 2))]) C h1 (mX4_visitor l D K a r1 (xs (i + 1)) (xs (i + 2)) (v, r2) e2) gL_law_X4_visitor rfl (by decide) ⟨Nat.le_of_ble_eq_true rfl, Nat.le_of_ble_eq_true rfl, rfl, rfl⟩ rfl rfl hl.1 (Nat.le_of_ble_eq_true rfl) dL_law_438 hk hn (fun H2 locs2 h2 => ?_)
  refine lv_istore (lv' := [(6, .int v), (5, .int w), (0, .ref b0), (1, .ref (b 0)), (2, .ref (a 0)), (3, .ref o), (4, .int (nI i))]) hx hb dL_law_441 hl (by decide) rfl (fun ls hl => ?_)
  refine lw_tail (tE := 471) C h2 hl g2 g3 hk hn rfl dL_law_443 dL_law_444 dL_law_447 dL_law_449 dL_law_454 dL_law_456 dL_law_459 dL_law_460 dL_law_461 dL_law_462 dL_law_464 dL_law_465 dL_law_466 dL_law_471 (by decide) (fun H3 locs3 h3 => ?_)
  exact KK T u1 f2 r2 H3 locs3 ls hT2 (by omega) h3 (lv_sub hl [2, 3, 4, 5, 6] rfl)
set_option maxHeartbeats 1000000 in
set_option maxRecDepth 100000 in
theorem lwc_gate {p : Program} {l : Launch} {e : Env} {s : State} {m : MethodId} {below : List Frame} {meth : Method} {c : Code} {b0 L : Nat} {xs : Nat → Int32} {D : va_G} {K : Nat → ClassId} {b t x y : Nat → Nat} {α : Nat → Nat → Nat} {o : Nat} {a : Nat → Nat} (hL : L ≤ 2048) (C : lwC p l s m meth c b0 L xs D K) : lwCase p l e s m b0 below meth c L D K b t x y α o a 474 := by
  intro T s1 f r1 H locs ls i k n hTop hT3 hi h hl hk hn KK
  obtain ⟨hx, hb, hr, hml, hown, hts, hX, hbl, hlocks, hK, hgX, hN, hfl⟩ := id C
  obtain ⟨A, hA⟩ := hTop
  obtain ⟨res, v, s2, r2, e1, e2, hT2, hcd, hout⟩ := Step_res (fun z => cdL_le _ _ z) (gate_step hA (xs (i + 1)) (xs (i + 2)))
  refine lv_aload_n hx hb dL_law_474 rfl (lv_at hl 1 rfl) ?_
  refine lw_arg (j := 1) C h (lv_at hl 0 rfl) (lv_at hl 4 rfl) (by omega) hL rfl dL_law_475 dL_law_476 dL_law_478 dL_law_479 dL_law_480 ?_
  refine lw_arg (j := 2) C h (lv_at hl 0 rfl) (lv_at hl 4 rfl) (by omega) hL rfl dL_law_481 dL_law_482 dL_law_484 dL_law_485 dL_law_486 ?_
  refine lv_aload_n hx hb dL_law_487 rfl (lv_at hl 3 rfl) ?_
  refine lw_static (na := 4) (argv := [.ref (b 0), .int (xs (i + 1)), .int (xs (i + 2)), .ref o]) C h (mL_gate l hfl D K b t x y α o (s1, f) (xs (i + 1)) (xs (i + 2)) res e1 hcd) gL_law_L_gate rfl (by decide) ⟨Nat.le_of_ble_eq_true rfl, Nat.le_of_ble_eq_true rfl⟩ rfl rfl hl.1 dL_law_488 hk hn (fun w u H1 locs1 hw h1 => ?_)
  obtain ⟨u1, f2⟩ := u
  obtain ⟨g1, g2, g3⟩ := hout w (s1, f) (u1, f2) hw
  have g1 : u1 = s2 := g1
  subst g1
  refine lv_istore (lv' := [(5, .int w), (0, .ref b0), (1, .ref (b 0)), (2, .ref (a 0)), (3, .ref o), (4, .int (nI i))]) hx hb dL_law_491 hl (by decide) rfl (fun ls hl => ?_)
  refine lv_aload_n hx hb dL_law_493 rfl (lv_at hl 3 rfl) ?_
  refine lw_arg (j := 1) C h1 (lv_at hl 1 rfl) (lv_at hl 5 rfl) (by omega) hL rfl dL_law_494 dL_law_495 dL_law_497 dL_law_498 dL_law_499 ?_
  refine lw_arg (j := 2) C h1 (lv_at hl 1 rfl) (lv_at hl 5 rfl) (by omega) hL rfl dL_law_500 dL_law_501 dL_law_503 dL_law_504 dL_law_505 ?_
  refine lw_model (na := 2) (As := [.int (xs (i + 1)), .int (xs (i + 2))]) C h1 (mX4_gate l D K a r1 (xs (i + 1)) (xs (i + 2)) (v, r2) e2) gL_law_X4_gate rfl (by decide) ⟨Nat.le_of_ble_eq_true rfl, Nat.le_of_ble_eq_true rfl, rfl, rfl⟩ rfl rfl hl.1 (Nat.le_of_ble_eq_true rfl) dL_law_506 hk hn (fun H2 locs2 h2 => ?_)
  refine lv_istore (lv' := [(6, .int v), (5, .int w), (0, .ref b0), (1, .ref (b 0)), (2, .ref (a 0)), (3, .ref o), (4, .int (nI i))]) hx hb dL_law_509 hl (by decide) rfl (fun ls hl => ?_)
  refine lw_tail (tE := 539) C h2 hl g2 g3 hk hn rfl dL_law_511 dL_law_512 dL_law_515 dL_law_517 dL_law_522 dL_law_524 dL_law_527 dL_law_528 dL_law_529 dL_law_530 dL_law_532 dL_law_533 dL_law_534 dL_law_539 (by decide) (fun H3 locs3 h3 => ?_)
  exact KK T u1 f2 r2 H3 locs3 ls hT2 (by omega) h3 (lv_sub hl [2, 3, 4, 5, 6] rfl)
set_option maxHeartbeats 1000000 in
set_option maxRecDepth 100000 in
theorem lwc_shout {p : Program} {l : Launch} {e : Env} {s : State} {m : MethodId} {below : List Frame} {meth : Method} {c : Code} {b0 L : Nat} {xs : Nat → Int32} {D : va_G} {K : Nat → ClassId} {b t x y : Nat → Nat} {α : Nat → Nat → Nat} {o : Nat} {a : Nat → Nat} (hL : L ≤ 2048) (C : lwC p l s m meth c b0 L xs D K) : lwCase p l e s m b0 below meth c L D K b t x y α o a 542 := by
  intro T s1 f r1 H locs ls i k n hTop hT3 hi h hl hk hn KK
  obtain ⟨hx, hb, hr, hml, hown, hts, hX, hbl, hlocks, hK, hgX, hN, hfl⟩ := id C
  obtain ⟨A, hA⟩ := hTop
  obtain ⟨res, v, s2, r2, e1, e2, hT2, hcd, hout⟩ := Step_res (fun z => cdL_le _ _ z) (shout_step hA (xs (i + 1)) (xs (i + 2)))
  refine lv_aload_n hx hb dL_law_542 rfl (lv_at hl 1 rfl) ?_
  refine lw_arg (j := 1) C h (lv_at hl 0 rfl) (lv_at hl 4 rfl) (by omega) hL rfl dL_law_543 dL_law_544 dL_law_546 dL_law_547 dL_law_548 ?_
  refine lw_arg (j := 2) C h (lv_at hl 0 rfl) (lv_at hl 4 rfl) (by omega) hL rfl dL_law_549 dL_law_550 dL_law_552 dL_law_553 dL_law_554 ?_
  refine lv_aload_n hx hb dL_law_555 rfl (lv_at hl 3 rfl) ?_
  refine lw_static (na := 4) (argv := [.ref (b 0), .int (xs (i + 1)), .int (xs (i + 2)), .ref o]) C h (mL_shout l hfl D K b t x y α o (s1, f) (xs (i + 1)) (xs (i + 2)) res e1 hcd) gL_law_L_shout rfl (by decide) ⟨Nat.le_of_ble_eq_true rfl, Nat.le_of_ble_eq_true rfl⟩ rfl rfl hl.1 dL_law_556 hk hn (fun w u H1 locs1 hw h1 => ?_)
  obtain ⟨u1, f2⟩ := u
  obtain ⟨g1, g2, g3⟩ := hout w (s1, f) (u1, f2) hw
  have g1 : u1 = s2 := g1
  subst g1
  refine lv_istore (lv' := [(5, .int w), (0, .ref b0), (1, .ref (b 0)), (2, .ref (a 0)), (3, .ref o), (4, .int (nI i))]) hx hb dL_law_559 hl (by decide) rfl (fun ls hl => ?_)
  refine lv_aload_n hx hb dL_law_561 rfl (lv_at hl 3 rfl) ?_
  refine lw_arg (j := 1) C h1 (lv_at hl 1 rfl) (lv_at hl 5 rfl) (by omega) hL rfl dL_law_562 dL_law_563 dL_law_565 dL_law_566 dL_law_567 ?_
  refine lw_arg (j := 2) C h1 (lv_at hl 1 rfl) (lv_at hl 5 rfl) (by omega) hL rfl dL_law_568 dL_law_569 dL_law_571 dL_law_572 dL_law_573 ?_
  refine lw_model (na := 2) (As := [.int (xs (i + 1)), .int (xs (i + 2))]) C h1 (mX4_shout l D K a r1 (xs (i + 1)) (xs (i + 2)) (v, r2) e2) gL_law_X4_shout rfl (by decide) ⟨Nat.le_of_ble_eq_true rfl, Nat.le_of_ble_eq_true rfl, rfl, rfl⟩ rfl rfl hl.1 (Nat.le_of_ble_eq_true rfl) dL_law_574 hk hn (fun H2 locs2 h2 => ?_)
  refine lv_istore (lv' := [(6, .int v), (5, .int w), (0, .ref b0), (1, .ref (b 0)), (2, .ref (a 0)), (3, .ref o), (4, .int (nI i))]) hx hb dL_law_577 hl (by decide) rfl (fun ls hl => ?_)
  refine lw_tail (tE := 607) C h2 hl g2 g3 hk hn rfl dL_law_579 dL_law_580 dL_law_583 dL_law_585 dL_law_590 dL_law_592 dL_law_595 dL_law_596 dL_law_597 dL_law_598 dL_law_600 dL_law_601 dL_law_602 dL_law_607 (by decide) (fun H3 locs3 h3 => ?_)
  exact KK T u1 f2 r2 H3 locs3 ls hT2 (by omega) h3 (lv_sub hl [2, 3, 4, 5, 6] rfl)
set_option maxHeartbeats 1000000 in
set_option maxRecDepth 100000 in
theorem lwc_take {p : Program} {l : Launch} {e : Env} {s : State} {m : MethodId} {below : List Frame} {meth : Method} {c : Code} {b0 L : Nat} {xs : Nat → Int32} {D : va_G} {K : Nat → ClassId} {b t x y : Nat → Nat} {α : Nat → Nat → Nat} {o : Nat} {a : Nat → Nat} (hL : L ≤ 2048) (C : lwC p l s m meth c b0 L xs D K) : lwCase p l e s m b0 below meth c L D K b t x y α o a 610 := by
  intro T s1 f r1 H locs ls i k n hTop hT3 hi h hl hk hn KK
  obtain ⟨hx, hb, hr, hml, hown, hts, hX, hbl, hlocks, hK, hgX, hN, hfl⟩ := id C
  obtain ⟨A, hA⟩ := hTop
  obtain ⟨res, v, s2, r2, e1, e2, hT2, hcd, hout⟩ := Step_res (fun z => cdL_le _ _ z) (take_step hA (xs (i + 1)) (xs (i + 2)))
  refine lv_aload_n hx hb dL_law_610 rfl (lv_at hl 1 rfl) ?_
  refine lw_arg (j := 1) C h (lv_at hl 0 rfl) (lv_at hl 4 rfl) (by omega) hL rfl dL_law_611 dL_law_612 dL_law_614 dL_law_615 dL_law_616 ?_
  refine lw_arg (j := 2) C h (lv_at hl 0 rfl) (lv_at hl 4 rfl) (by omega) hL rfl dL_law_617 dL_law_618 dL_law_620 dL_law_621 dL_law_622 ?_
  refine lv_aload_n hx hb dL_law_623 rfl (lv_at hl 3 rfl) ?_
  refine lw_static (na := 4) (argv := [.ref (b 0), .int (xs (i + 1)), .int (xs (i + 2)), .ref o]) C h (mL_take l hfl D K b t x y α o (s1, f) (xs (i + 1)) (xs (i + 2)) res e1 hcd) gL_law_L_take rfl (by decide) ⟨Nat.le_of_ble_eq_true rfl, Nat.le_of_ble_eq_true rfl⟩ rfl rfl hl.1 dL_law_624 hk hn (fun w u H1 locs1 hw h1 => ?_)
  obtain ⟨u1, f2⟩ := u
  obtain ⟨g1, g2, g3⟩ := hout w (s1, f) (u1, f2) hw
  have g1 : u1 = s2 := g1
  subst g1
  refine lv_istore (lv' := [(5, .int w), (0, .ref b0), (1, .ref (b 0)), (2, .ref (a 0)), (3, .ref o), (4, .int (nI i))]) hx hb dL_law_627 hl (by decide) rfl (fun ls hl => ?_)
  refine lv_aload_n hx hb dL_law_629 rfl (lv_at hl 3 rfl) ?_
  refine lw_arg (j := 1) C h1 (lv_at hl 1 rfl) (lv_at hl 5 rfl) (by omega) hL rfl dL_law_630 dL_law_631 dL_law_633 dL_law_634 dL_law_635 ?_
  refine lw_arg (j := 2) C h1 (lv_at hl 1 rfl) (lv_at hl 5 rfl) (by omega) hL rfl dL_law_636 dL_law_637 dL_law_639 dL_law_640 dL_law_641 ?_
  refine lw_model (na := 2) (As := [.int (xs (i + 1)), .int (xs (i + 2))]) C h1 (mX4_take l D K a r1 (xs (i + 1)) (xs (i + 2)) (v, r2) e2) gL_law_X4_take rfl (by decide) ⟨Nat.le_of_ble_eq_true rfl, Nat.le_of_ble_eq_true rfl, rfl, rfl⟩ rfl rfl hl.1 (Nat.le_of_ble_eq_true rfl) dL_law_642 hk hn (fun H2 locs2 h2 => ?_)
  refine lv_istore (lv' := [(6, .int v), (5, .int w), (0, .ref b0), (1, .ref (b 0)), (2, .ref (a 0)), (3, .ref o), (4, .int (nI i))]) hx hb dL_law_645 hl (by decide) rfl (fun ls hl => ?_)
  refine lw_tail (tE := 675) C h2 hl g2 g3 hk hn rfl dL_law_647 dL_law_648 dL_law_651 dL_law_653 dL_law_658 dL_law_660 dL_law_663 dL_law_664 dL_law_665 dL_law_666 dL_law_668 dL_law_669 dL_law_670 dL_law_675 (by decide) (fun H3 locs3 h3 => ?_)
  exact KK T u1 f2 r2 H3 locs3 ls hT2 (by omega) h3 (lv_sub hl [2, 3, 4, 5, 6] rfl)
set_option maxHeartbeats 1000000 in
set_option maxRecDepth 100000 in
theorem lwc_putBack {p : Program} {l : Launch} {e : Env} {s : State} {m : MethodId} {below : List Frame} {meth : Method} {c : Code} {b0 L : Nat} {xs : Nat → Int32} {D : va_G} {K : Nat → ClassId} {b t x y : Nat → Nat} {α : Nat → Nat → Nat} {o : Nat} {a : Nat → Nat} (hL : L ≤ 2048) (C : lwC p l s m meth c b0 L xs D K) : lwCase p l e s m b0 below meth c L D K b t x y α o a 678 := by
  intro T s1 f r1 H locs ls i k n hTop hT3 hi h hl hk hn KK
  obtain ⟨hx, hb, hr, hml, hown, hts, hX, hbl, hlocks, hK, hgX, hN, hfl⟩ := id C
  obtain ⟨A, hA⟩ := hTop
  obtain ⟨res, v, s2, r2, e1, e2, hT2, hcd, hout⟩ := Step_res (fun z => cdL_le _ _ z) (putBack_step hA (xs (i + 1)))
  refine lv_aload_n hx hb dL_law_678 rfl (lv_at hl 1 rfl) ?_
  refine lw_arg (j := 1) C h (lv_at hl 0 rfl) (lv_at hl 4 rfl) (by omega) hL rfl dL_law_679 dL_law_680 dL_law_682 dL_law_683 dL_law_684 ?_
  refine lv_aload_n hx hb dL_law_685 rfl (lv_at hl 3 rfl) ?_
  refine lw_static (na := 3) (argv := [.ref (b 0), .int (xs (i + 1)), .ref o]) C h (mL_putBack l hfl D K b t x y α o (s1, f) (xs (i + 1)) res e1 hcd) gL_law_L_putBack rfl (by decide) ⟨Nat.le_of_ble_eq_true rfl, Nat.le_of_ble_eq_true rfl⟩ rfl rfl hl.1 dL_law_686 hk hn (fun w u H1 locs1 hw h1 => ?_)
  obtain ⟨u1, f2⟩ := u
  obtain ⟨g1, g2, g3⟩ := hout w (s1, f) (u1, f2) hw
  have g1 : u1 = s2 := g1
  subst g1
  refine lv_istore (lv' := [(5, .int w), (0, .ref b0), (1, .ref (b 0)), (2, .ref (a 0)), (3, .ref o), (4, .int (nI i))]) hx hb dL_law_689 hl (by decide) rfl (fun ls hl => ?_)
  refine lv_aload_n hx hb dL_law_691 rfl (lv_at hl 3 rfl) ?_
  refine lw_arg (j := 1) C h1 (lv_at hl 1 rfl) (lv_at hl 5 rfl) (by omega) hL rfl dL_law_692 dL_law_693 dL_law_695 dL_law_696 dL_law_697 ?_
  refine lw_model (na := 1) (As := [.int (xs (i + 1))]) C h1 (mX4_putBack l D K a r1 (xs (i + 1)) (v, r2) e2) gL_law_X4_putBack rfl (by decide) ⟨Nat.le_of_ble_eq_true rfl, Nat.le_of_ble_eq_true rfl, rfl, rfl⟩ rfl rfl hl.1 (Nat.le_of_ble_eq_true rfl) dL_law_698 hk hn (fun H2 locs2 h2 => ?_)
  refine lv_istore (lv' := [(6, .int v), (5, .int w), (0, .ref b0), (1, .ref (b 0)), (2, .ref (a 0)), (3, .ref o), (4, .int (nI i))]) hx hb dL_law_701 hl (by decide) rfl (fun ls hl => ?_)
  refine lw_tail (tE := 731) C h2 hl g2 g3 hk hn rfl dL_law_703 dL_law_704 dL_law_707 dL_law_709 dL_law_714 dL_law_716 dL_law_719 dL_law_720 dL_law_721 dL_law_722 dL_law_724 dL_law_725 dL_law_726 dL_law_731 (by decide) (fun H3 locs3 h3 => ?_)
  exact KK T u1 f2 r2 H3 locs3 ls hT2 (by omega) h3 (lv_sub hl [2, 3, 4, 5, 6] rfl)
set_option maxHeartbeats 1000000 in
set_option maxRecDepth 100000 in
theorem lwc_borrow {p : Program} {l : Launch} {e : Env} {s : State} {m : MethodId} {below : List Frame} {meth : Method} {c : Code} {b0 L : Nat} {xs : Nat → Int32} {D : va_G} {K : Nat → ClassId} {b t x y : Nat → Nat} {α : Nat → Nat → Nat} {o : Nat} {a : Nat → Nat} (hL : L ≤ 2048) (C : lwC p l s m meth c b0 L xs D K) : lwCase p l e s m b0 below meth c L D K b t x y α o a 734 := by
  intro T s1 f r1 H locs ls i k n hTop hT3 hi h hl hk hn KK
  obtain ⟨hx, hb, hr, hml, hown, hts, hX, hbl, hlocks, hK, hgX, hN, hfl⟩ := id C
  obtain ⟨A, hA⟩ := hTop
  obtain ⟨res, v, s2, r2, e1, e2, hT2, hcd, hout⟩ := Step_res (fun z => cdL_le _ _ z) (borrow_step hA (xs (i + 1)))
  refine lv_aload_n hx hb dL_law_734 rfl (lv_at hl 1 rfl) ?_
  refine lw_arg (j := 1) C h (lv_at hl 0 rfl) (lv_at hl 4 rfl) (by omega) hL rfl dL_law_735 dL_law_736 dL_law_738 dL_law_739 dL_law_740 ?_
  refine lv_aload_n hx hb dL_law_741 rfl (lv_at hl 3 rfl) ?_
  refine lw_static (na := 3) (argv := [.ref (b 0), .int (xs (i + 1)), .ref o]) C h (mL_borrow l hfl D K b t x y α o (s1, f) (xs (i + 1)) res e1 hcd) gL_law_L_borrow rfl (by decide) ⟨Nat.le_of_ble_eq_true rfl, Nat.le_of_ble_eq_true rfl⟩ rfl rfl hl.1 dL_law_742 hk hn (fun w u H1 locs1 hw h1 => ?_)
  obtain ⟨u1, f2⟩ := u
  obtain ⟨g1, g2, g3⟩ := hout w (s1, f) (u1, f2) hw
  have g1 : u1 = s2 := g1
  subst g1
  refine lv_istore (lv' := [(5, .int w), (0, .ref b0), (1, .ref (b 0)), (2, .ref (a 0)), (3, .ref o), (4, .int (nI i))]) hx hb dL_law_745 hl (by decide) rfl (fun ls hl => ?_)
  refine lv_aload_n hx hb dL_law_747 rfl (lv_at hl 3 rfl) ?_
  refine lw_arg (j := 1) C h1 (lv_at hl 1 rfl) (lv_at hl 5 rfl) (by omega) hL rfl dL_law_748 dL_law_749 dL_law_751 dL_law_752 dL_law_753 ?_
  refine lw_model (na := 1) (As := [.int (xs (i + 1))]) C h1 (mX4_borrow l D K a r1 (xs (i + 1)) (v, r2) e2) gL_law_X4_borrow rfl (by decide) ⟨Nat.le_of_ble_eq_true rfl, Nat.le_of_ble_eq_true rfl, rfl, rfl⟩ rfl rfl hl.1 (Nat.le_of_ble_eq_true rfl) dL_law_754 hk hn (fun H2 locs2 h2 => ?_)
  refine lv_istore (lv' := [(6, .int v), (5, .int w), (0, .ref b0), (1, .ref (b 0)), (2, .ref (a 0)), (3, .ref o), (4, .int (nI i))]) hx hb dL_law_757 hl (by decide) rfl (fun ls hl => ?_)
  refine lw_tail (tE := 787) C h2 hl g2 g3 hk hn rfl dL_law_759 dL_law_760 dL_law_763 dL_law_765 dL_law_770 dL_law_772 dL_law_775 dL_law_776 dL_law_777 dL_law_778 dL_law_780 dL_law_781 dL_law_782 dL_law_787 (by decide) (fun H3 locs3 h3 => ?_)
  exact KK T u1 f2 r2 H3 locs3 ls hT2 (by omega) h3 (lv_sub hl [2, 3, 4, 5, 6] rfl)
set_option maxHeartbeats 1000000 in
set_option maxRecDepth 100000 in
theorem lwc_bringBack {p : Program} {l : Launch} {e : Env} {s : State} {m : MethodId} {below : List Frame} {meth : Method} {c : Code} {b0 L : Nat} {xs : Nat → Int32} {D : va_G} {K : Nat → ClassId} {b t x y : Nat → Nat} {α : Nat → Nat → Nat} {o : Nat} {a : Nat → Nat} (hL : L ≤ 2048) (C : lwC p l s m meth c b0 L xs D K) : lwCase p l e s m b0 below meth c L D K b t x y α o a 790 := by
  intro T s1 f r1 H locs ls i k n hTop hT3 hi h hl hk hn KK
  obtain ⟨hx, hb, hr, hml, hown, hts, hX, hbl, hlocks, hK, hgX, hN, hfl⟩ := id C
  obtain ⟨A, hA⟩ := hTop
  obtain ⟨res, v, s2, r2, e1, e2, hT2, hcd, hout⟩ := Step_res (fun z => cdL_le _ _ z) (bring_step hA (xs (i + 1)))
  refine lv_aload_n hx hb dL_law_790 rfl (lv_at hl 1 rfl) ?_
  refine lw_arg (j := 1) C h (lv_at hl 0 rfl) (lv_at hl 4 rfl) (by omega) hL rfl dL_law_791 dL_law_792 dL_law_794 dL_law_795 dL_law_796 ?_
  refine lv_aload_n hx hb dL_law_797 rfl (lv_at hl 3 rfl) ?_
  refine lw_static (na := 3) (argv := [.ref (b 0), .int (xs (i + 1)), .ref o]) C h (mL_bringBack l hfl D K b t x y α o (s1, f) (xs (i + 1)) res e1 hcd) gL_law_L_bringBack rfl (by decide) ⟨Nat.le_of_ble_eq_true rfl, Nat.le_of_ble_eq_true rfl⟩ rfl rfl hl.1 dL_law_798 hk hn (fun w u H1 locs1 hw h1 => ?_)
  obtain ⟨u1, f2⟩ := u
  obtain ⟨g1, g2, g3⟩ := hout w (s1, f) (u1, f2) hw
  have g1 : u1 = s2 := g1
  subst g1
  refine lv_istore (lv' := [(5, .int w), (0, .ref b0), (1, .ref (b 0)), (2, .ref (a 0)), (3, .ref o), (4, .int (nI i))]) hx hb dL_law_801 hl (by decide) rfl (fun ls hl => ?_)
  refine lv_aload_n hx hb dL_law_803 rfl (lv_at hl 3 rfl) ?_
  refine lw_arg (j := 1) C h1 (lv_at hl 1 rfl) (lv_at hl 5 rfl) (by omega) hL rfl dL_law_804 dL_law_805 dL_law_807 dL_law_808 dL_law_809 ?_
  refine lw_model (na := 1) (As := [.int (xs (i + 1))]) C h1 (mX4_bringBack l D K a r1 (xs (i + 1)) (v, r2) e2) gL_law_X4_bringBack rfl (by decide) ⟨Nat.le_of_ble_eq_true rfl, Nat.le_of_ble_eq_true rfl, rfl, rfl⟩ rfl rfl hl.1 (Nat.le_of_ble_eq_true rfl) dL_law_810 hk hn (fun H2 locs2 h2 => ?_)
  refine lv_istore (lv' := [(6, .int v), (5, .int w), (0, .ref b0), (1, .ref (b 0)), (2, .ref (a 0)), (3, .ref o), (4, .int (nI i))]) hx hb dL_law_813 hl (by decide) rfl (fun ls hl => ?_)
  refine lw_tail (tE := 843) C h2 hl g2 g3 hk hn rfl dL_law_815 dL_law_816 dL_law_819 dL_law_821 dL_law_826 dL_law_828 dL_law_831 dL_law_832 dL_law_833 dL_law_834 dL_law_836 dL_law_837 dL_law_838 dL_law_843 (by decide) (fun H3 locs3 h3 => ?_)
  exact KK T u1 f2 r2 H3 locs3 ls hT2 (by omega) h3 (lv_sub hl [2, 3, 4, 5, 6] rfl)
