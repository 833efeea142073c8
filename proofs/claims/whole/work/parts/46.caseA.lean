/-! THE LAW, cases 0 to 7 -/
set_option maxHeartbeats 4000000 in
set_option maxRecDepth 100000 in
theorem lcase_0 (l : Launch) (hst : l.stackTraces = false) {p : Program} {e : Env} {s : State} {m : MethodId} {below : List Frame} {meth : Method} {c : Code} {D : va_G} {aC : Nat → ClassId} {a1 a2 : Nat → Nat} {ao aD b L : Nat} {xs : Nat → Int32} {Q : State → Prop} (G : lG p s m #[.ref b] meth c cL_law RL 9 D aC (lA s)) (hTh : wTh (lA s) s s.heap) (hNo : wNo s) (hX : va_X b L xs s s.heap) (hbl : b < s.heap.size) (hL : L ≤ 2560) {z y y' : wZ} {n : Nat} (hI : LI n z y y') (hn : 5 * n + 5 ≤ L) {fo : Nat → Int64} {go : Nat → UInt64} (kk : ∀ (z2 y2 y3 : wZ) (fo : Nat → Int64) (go : Nat → UInt64), LI (n + 1) z2 y2 y3 → JR p l e room_1 s m #[.ref b] below meth c 9 D (lA s) Q (100 + 5 * n + 5) (3000 + 30 * n + 30) (lW aC a1 a2 ao aD fo go (zc z2 y2) (zc z2 y3)) 2128 (lL b (a1 0) (a2 40) ao aD (5 * (n : Int))) []) : JR p l e room_1 s m #[.ref b] below meth c 9 D (lA s) Q (100 + 5 * n) (3000 + 30 * n) (lW aC a1 a2 ao aD fo go (zc z y) (zc z y')) 188 (lL b (a1 0) (a2 40) ao aD (5 * (n : Int))) [] := by
  obtain ⟨hR, hY, hY3, hCW, hMI, h6, h29⟩ := id hI
  have hWF := hCW.1
  obtain ⟨x1, e1, r1⟩ := sx_ex (xs (5 * n + 1))
  refine r_aload_n G 1 dL_law_188 rfl ?_
  refine r_scr (jn := 1) G hX hbl rfl (by omega) hL e1 0 5 rfl rfl dL_law_189 dL_law_190 dL_law_192 dL_law_193 dL_law_194 ?_
  refine r_bool G r1 dL_law_195 dL_law_198 dL_law_199 dL_law_202 ?_
  refine r_aload_n G 3 dL_law_203 rfl ?_
  refine r_ws (lW_L _ _ _ _ _ _ _ _ _) ?_
  refine r_calls (w0 := []) (w2 := [(aD, oD aC go)] ++ (wd aC a2 shM (zc z y') ++ [])) (wx := [(ao, oL aC fo)] ++ (wd aC a1 shC (zc z y) ++ [])) (As := [.ref (a1 0), vi (bz x1), .ref ao]) (st := []) (y0 := yL_addFork) (idx := 124) G hTh hNo KW_addFork (fun _ => lw_addFork l hst hR hY hCW (bz x1) (bz_r x1) (bz_01 x1)) rfl ⟨rfl, rfl, Nat.le_of_ble_eq_true rfl, Nat.le_of_ble_eq_true rfl⟩ ⟨by show 100 + 5 * n + 5 ≤ 3162; omega, by show 3000 + 30 * n + 30 ≤ 121779; omega⟩ (Nat.le_of_ble_eq_true rfl) dL_law_204 (fun i9 wx9 hp => ?_)
  obtain ⟨ga, z2, y2, rfl, rfl, hk0, hk1⟩ := hp
  refine r_ws (lW_L _ _ _ _ _ _ _ _ _).symm ?_
  refine r_istore (Lv' := [(6, vi (kcAF z)), (0, .ref b), (1, .ref (a1 0)), (2, .ref (a2 40)), (3, .ref ao), (4, .ref aD), (5, vi (5 * (n : Int)))]) G dL_law_207 (by decide) rfl ?_
  refine r_aload_n G 3 dL_law_209 rfl ?_
  refine r_scr (jn := 1) G hX hbl rfl (by omega) hL e1 1 6 rfl rfl dL_law_210 dL_law_211 dL_law_213 dL_law_214 dL_law_215 ?_
  refine r_bool G r1 dL_law_216 dL_law_219 dL_law_220 dL_law_223 ?_
  refine r_ws (lW_M _ _ _ _ _ _ _ _ _) ?_
  refine r_calli (w0 := [(ao, oL aC ga)] ++ (wd aC a1 shC (zc z2 y2) ++ [(aD, oD aC go)])) (w2 := []) (ad := a2) (sh := shM) (z := z) (y := y') (q0 := 0) (nb := 40) (As := [vi (bz x1)]) (st := []) (y0 := yX8_addFork) (idx := 129) (C := RX8) G KM_addFork (fun hd => m_addFork l hd hR hY3 (bz x1) (bz_01 x1)) rfl rfl rfl ⟨rfl, rfl, Nat.le_of_ble_eq_true rfl, Nat.le_of_ble_eq_true rfl⟩ ⟨by show 100 + 5 * n + 5 ≤ 3162; omega, by show 3000 + 30 * n + 30 ≤ 121779; omega⟩ (Nat.le_of_ble_eq_true rfl) dL_law_224 (fun b9 z3 y3 hp => ?_)
  obtain ⟨e71, hb, hb1, hRz3, hRy3, hfr⟩ := hp
  refine r_ws (lW_M _ _ _ _ _ _ _ _ _).symm ?_
  refine r_istore (Lv' := [(7, vi b9), (6, vi (kcAF z)), (0, .ref b), (1, .ref (a1 0)), (2, .ref (a2 40)), (3, .ref ao), (4, .ref aD), (5, vi (5 * (n : Int)))]) G dL_law_227 (by decide) rfl ?_
  refine r_aload_n G 4 dL_law_229 rfl ?_
  refine r_ws (lW_M _ _ _ _ _ _ _ _ _) ?_
  refine r_calli (w0 := [(ao, oL aC ga)] ++ (wd aC a1 shC (zc z2 y2) ++ [(aD, oD aC go)])) (w2 := []) (ad := a2) (sh := shM) (z := z3) (y := y3) (q0 := 0) (nb := 40) (As := []) (st := []) (y0 := yX8_thrown) (idx := 130) (C := RX8) G KM_thrown (fun hd => m_thrown l hd hRz3 hRy3) rfl rfl rfl ⟨rfl, rfl, Nat.le_of_ble_eq_true rfl, Nat.le_of_ble_eq_true rfl⟩ ⟨by show 100 + 5 * n + 5 ≤ 3162; omega, by show 3000 + 30 * n + 30 ≤ 121779; omega⟩ (Nat.le_of_ble_eq_true rfl) dL_law_230 (fun b8 z4 y4 hp => ?_)
  obtain ⟨rfl, ez4, ey4⟩ := hp
  subst z4
  subst y4
  rw [e71]
  refine r_ws (lW_M _ _ _ _ _ _ _ _ _).symm ?_
  refine r_iload G 1 dL_law_233 rfl ?_
  refine r_icmp_same (tgt := 240) G dL_law_235 (by decide) ?_
  refine r_iload G 1 dL_law_240 rfl ?_
  refine r_ifne_i (tgt := 257) G dL_law_242 (by decide) (by unfold kcAF; (repeat' split) <;> omega) (fun h0 => ?_) (fun h0 => ?_)
  · obtain ⟨ez2, ey2⟩ := hk1 h0
    subst z2
    subst y2
    have ez3 := hb1 h0
    subst z3
    refine r_goto (tgt := 2128) G dL_law_257 (by decide) ?_
    refine r_sub (Lv' := lL b (a1 0) (a2 40) ao aD (5 * (n : Int))) [2, 3, 4, 5, 6, 7] rfl ?_
    exact kk z y y3 ga go (LI_q hI hRy3 hfr)
  · obtain ⟨r_, hga, hre⟩ := hk0 h0
    obtain ⟨rfl, ez2, hRz2, hRy2, hCW2⟩ := hre
    subst z2
    obtain ⟨rfl, ez3⟩ := hb h0
    subst z3
    refine r_aload_n G 5 dL_law_245 rfl ?_
    refine r_iconst G dL_law_246 ?_
    refine r_lald (f := ga) G 0 rfl dL_law_247 ?_
    rw [hga]
    refine r_iload G 0 dL_law_248 rfl ?_
    refine r_i2l G dL_law_250 ?_
    refine r_lcmp_same G dL_law_251 ?_
    refine r_ifeq_0 (tgt := 257) G dL_law_252 (by decide) ?_
    refine r_goto (tgt := 2128) G dL_law_257 (by decide) ?_
    refine r_sub (Lv' := lL b (a1 0) (a2 40) ao aD (5 * (n : Int))) [2, 3, 4, 5, 6, 7] rfl ?_
    exact kk _ y2 y3 ga go (LI_u hI hRz2 hRy2 hRy3 hCW2 hfr (by rw [LafF_k _ _ ⟨by decide, by decide⟩]; omega) (LafF_k _ _ ⟨by decide, by decide⟩) (LafF_k _ _ ⟨by decide, by decide⟩) (LafF_k _ _ ⟨by decide, by decide⟩))
set_option maxHeartbeats 4000000 in
set_option maxRecDepth 100000 in
theorem lcase_1 (l : Launch) (hst : l.stackTraces = false) {p : Program} {e : Env} {s : State} {m : MethodId} {below : List Frame} {meth : Method} {c : Code} {D : va_G} {aC : Nat → ClassId} {a1 a2 : Nat → Nat} {ao aD b L : Nat} {xs : Nat → Int32} {Q : State → Prop} (G : lG p s m #[.ref b] meth c cL_law RL 9 D aC (lA s)) (hTh : wTh (lA s) s s.heap) (hNo : wNo s) (hX : va_X b L xs s s.heap) (hbl : b < s.heap.size) (hL : L ≤ 2560) {z y y' : wZ} {n : Nat} (hI : LI n z y y') (hn : 5 * n + 5 ≤ L) {fo : Nat → Int64} {go : Nat → UInt64} (kk : ∀ (z2 y2 y3 : wZ) (fo : Nat → Int64) (go : Nat → UInt64), LI (n + 1) z2 y2 y3 → JR p l e room_1 s m #[.ref b] below meth c 9 D (lA s) Q (100 + 5 * n + 5) (3000 + 30 * n + 30) (lW aC a1 a2 ao aD fo go (zc z2 y2) (zc z2 y3)) 2128 (lL b (a1 0) (a2 40) ao aD (5 * (n : Int))) []) : JR p l e room_1 s m #[.ref b] below meth c 9 D (lA s) Q (100 + 5 * n) (3000 + 30 * n) (lW aC a1 a2 ao aD fo go (zc z y) (zc z y')) 260 (lL b (a1 0) (a2 40) ao aD (5 * (n : Int))) [] := by
  obtain ⟨hR, hY, hY3, hCW, hMI, h6, h29⟩ := id hI
  have hWF := hCW.1
  obtain ⟨x1, e1, r1⟩ := sx_ex (xs (5 * n + 1))
  obtain ⟨x2, e2, r2⟩ := sx_ex (xs (5 * n + 2))
  obtain ⟨x3, e3, r3⟩ := sx_ex (xs (5 * n + 3))
  obtain ⟨x4, e4, r4⟩ := sx_ex (xs (5 * n + 4))
  refine r_aload_n G 1 dL_law_260 rfl ?_
  refine r_scr (jn := 1) G hX hbl rfl (by omega) hL e1 0 5 rfl rfl dL_law_261 dL_law_262 dL_law_264 dL_law_265 dL_law_266 ?_
  refine r_scr (jn := 2) G hX hbl rfl (by omega) hL e2 0 5 rfl rfl dL_law_267 dL_law_268 dL_law_270 dL_law_271 dL_law_272 ?_
  refine r_scr (jn := 3) G hX hbl rfl (by omega) hL e3 0 5 rfl rfl dL_law_273 dL_law_274 dL_law_276 dL_law_277 dL_law_278 ?_
  refine r_scr (jn := 4) G hX hbl rfl (by omega) hL e4 0 5 rfl rfl dL_law_279 dL_law_280 dL_law_282 dL_law_283 dL_law_284 ?_
  refine r_aload_n G 3 dL_law_285 rfl ?_
  refine r_ws (lW_L _ _ _ _ _ _ _ _ _) ?_
  refine r_calls (w0 := []) (w2 := [(aD, oD aC go)] ++ (wd aC a2 shM (zc z y') ++ [])) (wx := [(ao, oL aC fo)] ++ (wd aC a1 shC (zc z y) ++ [])) (As := [.ref (a1 0), vi x1, vi x2, vi x3, vi x4, .ref ao]) (st := []) (y0 := yL_addTrail) (idx := 133) G hTh hNo KW_addTrail (fun _ => lw_addTrail l hst hR hY hCW x1 x2 x3 x4 r1 r2 r3 r4) rfl ⟨rfl, rfl, Nat.le_of_ble_eq_true rfl, Nat.le_of_ble_eq_true rfl⟩ ⟨by show 100 + 5 * n + 5 ≤ 3162; omega, by show 3000 + 30 * n + 30 ≤ 121779; omega⟩ (Nat.le_of_ble_eq_true rfl) dL_law_286 (fun i9 wx9 hp => ?_)
  obtain ⟨ga, z2, y2, rfl, rfl, hk0, hk1⟩ := hp
  refine r_ws (lW_L _ _ _ _ _ _ _ _ _).symm ?_
  refine r_istore (Lv' := [(6, vi (kcAT z x1 x2 x3 x4)), (0, .ref b), (1, .ref (a1 0)), (2, .ref (a2 40)), (3, .ref ao), (4, .ref aD), (5, vi (5 * (n : Int)))]) G dL_law_289 (by decide) rfl ?_
  refine r_aload_n G 3 dL_law_291 rfl ?_
  refine r_scr (jn := 1) G hX hbl rfl (by omega) hL e1 1 6 rfl rfl dL_law_292 dL_law_293 dL_law_295 dL_law_296 dL_law_297 ?_
  refine r_scr (jn := 2) G hX hbl rfl (by omega) hL e2 1 6 rfl rfl dL_law_298 dL_law_299 dL_law_301 dL_law_302 dL_law_303 ?_
  refine r_scr (jn := 3) G hX hbl rfl (by omega) hL e3 1 6 rfl rfl dL_law_304 dL_law_305 dL_law_307 dL_law_308 dL_law_309 ?_
  refine r_scr (jn := 4) G hX hbl rfl (by omega) hL e4 1 6 rfl rfl dL_law_310 dL_law_311 dL_law_313 dL_law_314 dL_law_315 ?_
  refine r_ws (lW_M _ _ _ _ _ _ _ _ _) ?_
  refine r_calli (w0 := [(ao, oL aC ga)] ++ (wd aC a1 shC (zc z2 y2) ++ [(aD, oD aC go)])) (w2 := []) (ad := a2) (sh := shM) (z := z) (y := y') (q0 := 0) (nb := 40) (As := [vi x1, vi x2, vi x3, vi x4]) (st := []) (y0 := yX8_addTrail) (idx := 136) (C := RX8) G KM_addTrail (fun hd => m_addTrail l hd hR hY3 x1 x2 x3 x4 r1 r2 r3 r4) rfl rfl rfl ⟨rfl, rfl, Nat.le_of_ble_eq_true rfl, Nat.le_of_ble_eq_true rfl⟩ ⟨by show 100 + 5 * n + 5 ≤ 3162; omega, by show 3000 + 30 * n + 30 ≤ 121779; omega⟩ (Nat.le_of_ble_eq_true rfl) dL_law_316 (fun b9 z3 y3 hp => ?_)
  obtain ⟨e71, hb, hb1, hRz3, hRy3, hfr⟩ := hp
  refine r_ws (lW_M _ _ _ _ _ _ _ _ _).symm ?_
  refine r_istore (Lv' := [(7, vi b9), (6, vi (kcAT z x1 x2 x3 x4)), (0, .ref b), (1, .ref (a1 0)), (2, .ref (a2 40)), (3, .ref ao), (4, .ref aD), (5, vi (5 * (n : Int)))]) G dL_law_319 (by decide) rfl ?_
  refine r_aload_n G 4 dL_law_321 rfl ?_
  refine r_ws (lW_M _ _ _ _ _ _ _ _ _) ?_
  refine r_calli (w0 := [(ao, oL aC ga)] ++ (wd aC a1 shC (zc z2 y2) ++ [(aD, oD aC go)])) (w2 := []) (ad := a2) (sh := shM) (z := z3) (y := y3) (q0 := 0) (nb := 40) (As := []) (st := []) (y0 := yX8_thrown) (idx := 130) (C := RX8) G KM_thrown (fun hd => m_thrown l hd hRz3 hRy3) rfl rfl rfl ⟨rfl, rfl, Nat.le_of_ble_eq_true rfl, Nat.le_of_ble_eq_true rfl⟩ ⟨by show 100 + 5 * n + 5 ≤ 3162; omega, by show 3000 + 30 * n + 30 ≤ 121779; omega⟩ (Nat.le_of_ble_eq_true rfl) dL_law_322 (fun b8 z4 y4 hp => ?_)
  obtain ⟨rfl, ez4, ey4⟩ := hp
  subst z4
  subst y4
  rw [e71]
  refine r_ws (lW_M _ _ _ _ _ _ _ _ _).symm ?_
  refine r_iload G 1 dL_law_325 rfl ?_
  refine r_icmp_same (tgt := 332) G dL_law_327 (by decide) ?_
  refine r_iload G 1 dL_law_332 rfl ?_
  refine r_ifne_i (tgt := 349) G dL_law_334 (by decide) (by unfold kcAT; (repeat' split) <;> omega) (fun h0 => ?_) (fun h0 => ?_)
  · obtain ⟨ez2, ey2⟩ := hk1 h0
    subst z2
    subst y2
    have ez3 := hb1 h0
    subst z3
    refine r_goto (tgt := 2128) G dL_law_349 (by decide) ?_
    refine r_sub (Lv' := lL b (a1 0) (a2 40) ao aD (5 * (n : Int))) [2, 3, 4, 5, 6, 7] rfl ?_
    exact kk z y y3 ga go (LI_q hI hRy3 hfr)
  · obtain ⟨r_, hga, hre⟩ := hk0 h0
    obtain ⟨rfl, ez2, hRz2, hRy2, hCW2⟩ := hre
    subst z2
    obtain ⟨rfl, ez3⟩ := hb h0
    subst z3
    refine r_aload_n G 5 dL_law_337 rfl ?_
    refine r_iconst G dL_law_338 ?_
    refine r_lald (f := ga) G 0 rfl dL_law_339 ?_
    rw [hga]
    refine r_iload G 0 dL_law_340 rfl ?_
    refine r_i2l G dL_law_342 ?_
    refine r_lcmp_same G dL_law_343 ?_
    refine r_ifeq_0 (tgt := 349) G dL_law_344 (by decide) ?_
    refine r_goto (tgt := 2128) G dL_law_349 (by decide) ?_
    refine r_sub (Lv' := lL b (a1 0) (a2 40) ao aD (5 * (n : Int))) [2, 3, 4, 5, 6, 7] rfl ?_
    exact kk _ y2 y3 ga go (LI_u hI hRz2 hRy2 hRy3 hCW2 hfr (by rw [LjnF_k _ _ _ _ _ ⟨by decide, by decide, by decide, by decide, by decide⟩]; omega) (LjnF_k _ _ _ _ _ ⟨by decide, by decide, by decide, by decide, by decide⟩) (LjnF_k _ _ _ _ _ ⟨by decide, by decide, by decide, by decide, by decide⟩) (LjnF_k _ _ _ _ _ ⟨by decide, by decide, by decide, by decide, by decide⟩))
set_option maxHeartbeats 4000000 in
set_option maxRecDepth 100000 in
theorem lcase_2 (l : Launch) (hst : l.stackTraces = false) {p : Program} {e : Env} {s : State} {m : MethodId} {below : List Frame} {meth : Method} {c : Code} {D : va_G} {aC : Nat → ClassId} {a1 a2 : Nat → Nat} {ao aD b L : Nat} {xs : Nat → Int32} {Q : State → Prop} (G : lG p s m #[.ref b] meth c cL_law RL 9 D aC (lA s)) (hTh : wTh (lA s) s s.heap) (hNo : wNo s) (hX : va_X b L xs s s.heap) (hbl : b < s.heap.size) (hL : L ≤ 2560) {z y y' : wZ} {n : Nat} (hI : LI n z y y') (hn : 5 * n + 5 ≤ L) {fo : Nat → Int64} {go : Nat → UInt64} (kk : ∀ (z2 y2 y3 : wZ) (fo : Nat → Int64) (go : Nat → UInt64), LI (n + 1) z2 y2 y3 → JR p l e room_1 s m #[.ref b] below meth c 9 D (lA s) Q (100 + 5 * n + 5) (3000 + 30 * n + 30) (lW aC a1 a2 ao aD fo go (zc z2 y2) (zc z2 y3)) 2128 (lL b (a1 0) (a2 40) ao aD (5 * (n : Int))) []) : JR p l e room_1 s m #[.ref b] below meth c 9 D (lA s) Q (100 + 5 * n) (3000 + 30 * n) (lW aC a1 a2 ao aD fo go (zc z y) (zc z y')) 352 (lL b (a1 0) (a2 40) ao aD (5 * (n : Int))) [] := by
  obtain ⟨hR, hY, hY3, hCW, hMI, h6, h29⟩ := id hI
  have hWF := hCW.1
  obtain ⟨x1, e1, r1⟩ := sx_ex (xs (5 * n + 1))
  refine r_aload_n G 1 dL_law_352 rfl ?_
  refine r_scr (jn := 1) G hX hbl rfl (by omega) hL e1 0 5 rfl rfl dL_law_353 dL_law_354 dL_law_356 dL_law_357 dL_law_358 ?_
  refine r_aload_n G 3 dL_law_359 rfl ?_
  refine r_ws (lW_L _ _ _ _ _ _ _ _ _) ?_
  refine r_calls (w0 := []) (w2 := [(aD, oD aC go)] ++ (wd aC a2 shM (zc z y') ++ [])) (wx := [(ao, oL aC fo)] ++ (wd aC a1 shC (zc z y) ++ [])) (As := [.ref (a1 0), vi x1, .ref ao]) (st := []) (y0 := yL_washOut) (idx := 137) G hTh hNo KW_washOut (fun _ => lw_washOut l hst hR hY hCW x1 r1) rfl ⟨rfl, rfl, Nat.le_of_ble_eq_true rfl, Nat.le_of_ble_eq_true rfl⟩ ⟨by show 100 + 5 * n + 5 ≤ 3162; omega, by show 3000 + 30 * n + 30 ≤ 121779; omega⟩ (Nat.le_of_ble_eq_true rfl) dL_law_360 (fun i9 wx9 hp => ?_)
  obtain ⟨ga, z2, y2, rfl, rfl, hk0, hk1⟩ := hp
  refine r_ws (lW_L _ _ _ _ _ _ _ _ _).symm ?_
  refine r_istore (Lv' := [(6, vi (kcT z x1)), (0, .ref b), (1, .ref (a1 0)), (2, .ref (a2 40)), (3, .ref ao), (4, .ref aD), (5, vi (5 * (n : Int)))]) G dL_law_363 (by decide) rfl ?_
  refine r_aload_n G 3 dL_law_365 rfl ?_
  refine r_scr (jn := 1) G hX hbl rfl (by omega) hL e1 1 6 rfl rfl dL_law_366 dL_law_367 dL_law_369 dL_law_370 dL_law_371 ?_
  refine r_ws (lW_M _ _ _ _ _ _ _ _ _) ?_
  refine r_calli (w0 := [(ao, oL aC ga)] ++ (wd aC a1 shC (zc z2 y2) ++ [(aD, oD aC go)])) (w2 := []) (ad := a2) (sh := shM) (z := z) (y := y') (q0 := 0) (nb := 40) (As := [vi x1]) (st := []) (y0 := yX8_washOut) (idx := 140) (C := RX8) G KM_washOut (fun hd => m_washOut l hd hR hY3 x1 r1) rfl rfl rfl ⟨rfl, rfl, Nat.le_of_ble_eq_true rfl, Nat.le_of_ble_eq_true rfl⟩ ⟨by show 100 + 5 * n + 5 ≤ 3162; omega, by show 3000 + 30 * n + 30 ≤ 121779; omega⟩ (Nat.le_of_ble_eq_true rfl) dL_law_372 (fun b9 z3 y3 hp => ?_)
  obtain ⟨e71, hb, hb1, hRz3, hRy3, hfr⟩ := hp
  refine r_ws (lW_M _ _ _ _ _ _ _ _ _).symm ?_
  refine r_istore (Lv' := [(7, vi b9), (6, vi (kcT z x1)), (0, .ref b), (1, .ref (a1 0)), (2, .ref (a2 40)), (3, .ref ao), (4, .ref aD), (5, vi (5 * (n : Int)))]) G dL_law_375 (by decide) rfl ?_
  refine r_aload_n G 4 dL_law_377 rfl ?_
  refine r_ws (lW_M _ _ _ _ _ _ _ _ _) ?_
  refine r_calli (w0 := [(ao, oL aC ga)] ++ (wd aC a1 shC (zc z2 y2) ++ [(aD, oD aC go)])) (w2 := []) (ad := a2) (sh := shM) (z := z3) (y := y3) (q0 := 0) (nb := 40) (As := []) (st := []) (y0 := yX8_thrown) (idx := 130) (C := RX8) G KM_thrown (fun hd => m_thrown l hd hRz3 hRy3) rfl rfl rfl ⟨rfl, rfl, Nat.le_of_ble_eq_true rfl, Nat.le_of_ble_eq_true rfl⟩ ⟨by show 100 + 5 * n + 5 ≤ 3162; omega, by show 3000 + 30 * n + 30 ≤ 121779; omega⟩ (Nat.le_of_ble_eq_true rfl) dL_law_378 (fun b8 z4 y4 hp => ?_)
  obtain ⟨rfl, ez4, ey4⟩ := hp
  subst z4
  subst y4
  rw [e71]
  refine r_ws (lW_M _ _ _ _ _ _ _ _ _).symm ?_
  refine r_iload G 1 dL_law_381 rfl ?_
  refine r_icmp_same (tgt := 388) G dL_law_383 (by decide) ?_
  refine r_iload G 1 dL_law_388 rfl ?_
  refine r_ifne_i (tgt := 412) G dL_law_390 (by decide) (by unfold kcT; (repeat' split) <;> omega) (fun h0 => ?_) (fun h0 => ?_)
  · obtain ⟨ez2, ey2⟩ := hk1 h0
    subst z2
    subst y2
    have ez3 := hb1 h0
    subst z3
    refine r_goto (tgt := 2128) G dL_law_412 (by decide) ?_
    refine r_sub (Lv' := lL b (a1 0) (a2 40) ao aD (5 * (n : Int))) [2, 3, 4, 5, 6, 7] rfl ?_
    exact kk z y y3 ga go (LI_q hI hRy3 hfr)
  · obtain ⟨r_, hga, hre⟩ := hk0 h0
    obtain ⟨rfl, ez2, hRz2, hRy2, hCW2⟩ := hre
    subst z2
    obtain ⟨rfl, ez3⟩ := hb h0
    subst z3
    refine r_aload_n G 5 dL_law_393 rfl ?_
    refine r_iconst G dL_law_394 ?_
    refine r_lald (f := ga) G 0 rfl dL_law_395 ?_
    rw [hga]
    refine r_iload G 0 dL_law_396 rfl ?_
    refine r_lbool G dL_law_398 dL_law_401 dL_law_402 dL_law_405 ?_
    refine r_lcmp_same G dL_law_406 ?_
    refine r_ifeq_0 (tgt := 412) G dL_law_407 (by decide) ?_
    refine r_goto (tgt := 2128) G dL_law_412 (by decide) ?_
    refine r_sub (Lv' := lL b (a1 0) (a2 40) ao aD (5 * (n : Int))) [2, 3, 4, 5, 6, 7] rfl ?_
    exact kk _ y2 y3 ga go (LI_u hI hRz2 hRy2 hRy3 hCW2 hfr (by rw [zp_nk _ (by decide)]; omega) (zp_nk _ (by decide)) (zp_nk _ (by decide)) (zp_nk _ (by decide)))
set_option maxHeartbeats 4000000 in
set_option maxRecDepth 100000 in
theorem lcase_3 (l : Launch) (hst : l.stackTraces = false) {p : Program} {e : Env} {s : State} {m : MethodId} {below : List Frame} {meth : Method} {c : Code} {D : va_G} {aC : Nat → ClassId} {a1 a2 : Nat → Nat} {ao aD b L : Nat} {xs : Nat → Int32} {Q : State → Prop} (G : lG p s m #[.ref b] meth c cL_law RL 9 D aC (lA s)) (hTh : wTh (lA s) s s.heap) (hNo : wNo s) (hX : va_X b L xs s s.heap) (hbl : b < s.heap.size) (hL : L ≤ 2560) {z y y' : wZ} {n : Nat} (hI : LI n z y y') (hn : 5 * n + 5 ≤ L) {fo : Nat → Int64} {go : Nat → UInt64} (kk : ∀ (z2 y2 y3 : wZ) (fo : Nat → Int64) (go : Nat → UInt64), LI (n + 1) z2 y2 y3 → JR p l e room_1 s m #[.ref b] below meth c 9 D (lA s) Q (100 + 5 * n + 5) (3000 + 30 * n + 30) (lW aC a1 a2 ao aD fo go (zc z2 y2) (zc z2 y3)) 2128 (lL b (a1 0) (a2 40) ao aD (5 * (n : Int))) []) : JR p l e room_1 s m #[.ref b] below meth c 9 D (lA s) Q (100 + 5 * n) (3000 + 30 * n) (lW aC a1 a2 ao aD fo go (zc z y) (zc z y')) 415 (lL b (a1 0) (a2 40) ao aD (5 * (n : Int))) [] := by
  obtain ⟨hR, hY, hY3, hCW, hMI, h6, h29⟩ := id hI
  have hWF := hCW.1
  obtain ⟨x1, e1, r1⟩ := sx_ex (xs (5 * n + 1))
  obtain ⟨x2, e2, r2⟩ := sx_ex (xs (5 * n + 2))
  refine r_aload_n G 1 dL_law_415 rfl ?_
  refine r_scr (jn := 1) G hX hbl rfl (by omega) hL e1 0 5 rfl rfl dL_law_416 dL_law_417 dL_law_419 dL_law_420 dL_law_421 ?_
  refine r_scr (jn := 2) G hX hbl rfl (by omega) hL e2 0 5 rfl rfl dL_law_422 dL_law_423 dL_law_425 dL_law_426 dL_law_427 ?_
  refine r_bool G r2 dL_law_428 dL_law_431 dL_law_432 dL_law_435 ?_
  refine r_aload_n G 3 dL_law_436 rfl ?_
  refine r_ws (lW_L _ _ _ _ _ _ _ _ _) ?_
  refine r_calls (w0 := []) (w2 := [(aD, oD aC go)] ++ (wd aC a2 shM (zc z y') ++ [])) (wx := [(ao, oL aC fo)] ++ (wd aC a1 shC (zc z y) ++ [])) (As := [.ref (a1 0), vi x1, vi (bz x2), .ref ao]) (st := []) (y0 := yL_isGone) (idx := 141) G hTh hNo KW_isGone (fun _ => lw_isGone l hst hR hY hCW x1 r1 (bz x2) (bz_01 x2)) rfl ⟨rfl, rfl, Nat.le_of_ble_eq_true rfl, Nat.le_of_ble_eq_true rfl⟩ ⟨by show 100 + 5 * n + 5 ≤ 3162; omega, by show 3000 + 30 * n + 30 ≤ 121779; omega⟩ (Nat.le_of_ble_eq_true rfl) dL_law_437 (fun i9 wx9 hp => ?_)
  obtain ⟨ga, z2, y2, rfl, rfl, hk0, hk1⟩ := hp
  refine r_ws (lW_L _ _ _ _ _ _ _ _ _).symm ?_
  refine r_istore (Lv' := [(6, vi (kcT z x1)), (0, .ref b), (1, .ref (a1 0)), (2, .ref (a2 40)), (3, .ref ao), (4, .ref aD), (5, vi (5 * (n : Int)))]) G dL_law_440 (by decide) rfl ?_
  refine r_aload_n G 3 dL_law_442 rfl ?_
  refine r_scr (jn := 1) G hX hbl rfl (by omega) hL e1 1 6 rfl rfl dL_law_443 dL_law_444 dL_law_446 dL_law_447 dL_law_448 ?_
  refine r_scr (jn := 2) G hX hbl rfl (by omega) hL e2 1 6 rfl rfl dL_law_449 dL_law_450 dL_law_452 dL_law_453 dL_law_454 ?_
  refine r_bool G r2 dL_law_455 dL_law_458 dL_law_459 dL_law_462 ?_
  refine r_ws (lW_M _ _ _ _ _ _ _ _ _) ?_
  refine r_calli (w0 := [(ao, oL aC ga)] ++ (wd aC a1 shC (zc z2 y2) ++ [(aD, oD aC go)])) (w2 := []) (ad := a2) (sh := shM) (z := z) (y := y') (q0 := 0) (nb := 40) (As := [vi x1, vi (bz x2)]) (st := []) (y0 := yX8_isGone) (idx := 144) (C := RX8) G KM_isGone (fun hd => m_isGone_v l hd hR hY3 x1 r1 (bz x2) (bz_01 x2)) rfl rfl rfl ⟨rfl, rfl, Nat.le_of_ble_eq_true rfl, Nat.le_of_ble_eq_true rfl⟩ ⟨by show 100 + 5 * n + 5 ≤ 3162; omega, by show 3000 + 30 * n + 30 ≤ 121779; omega⟩ (Nat.le_of_ble_eq_true rfl) dL_law_463 (fun b9 z3 y3 hp => ?_)
  obtain ⟨ez3, e71, hb, hRy3, hfr⟩ := hp
  subst z3
  have hRz3 := hR
  refine r_ws (lW_M _ _ _ _ _ _ _ _ _).symm ?_
  refine r_istore (Lv' := [(7, vi b9), (6, vi (kcT z x1)), (0, .ref b), (1, .ref (a1 0)), (2, .ref (a2 40)), (3, .ref ao), (4, .ref aD), (5, vi (5 * (n : Int)))]) G dL_law_466 (by decide) rfl ?_
  refine r_aload_n G 4 dL_law_468 rfl ?_
  refine r_ws (lW_M _ _ _ _ _ _ _ _ _) ?_
  refine r_calli (w0 := [(ao, oL aC ga)] ++ (wd aC a1 shC (zc z2 y2) ++ [(aD, oD aC go)])) (w2 := []) (ad := a2) (sh := shM) (z := z) (y := y3) (q0 := 0) (nb := 40) (As := []) (st := []) (y0 := yX8_thrown) (idx := 130) (C := RX8) G KM_thrown (fun hd => m_thrown l hd hRz3 hRy3) rfl rfl rfl ⟨rfl, rfl, Nat.le_of_ble_eq_true rfl, Nat.le_of_ble_eq_true rfl⟩ ⟨by show 100 + 5 * n + 5 ≤ 3162; omega, by show 3000 + 30 * n + 30 ≤ 121779; omega⟩ (Nat.le_of_ble_eq_true rfl) dL_law_469 (fun b8 z4 y4 hp => ?_)
  obtain ⟨rfl, ez4, ey4⟩ := hp
  subst z4
  subst y4
  rw [e71]
  refine r_ws (lW_M _ _ _ _ _ _ _ _ _).symm ?_
  refine r_iload G 1 dL_law_472 rfl ?_
  refine r_icmp_same (tgt := 479) G dL_law_474 (by decide) ?_
  refine r_iload G 1 dL_law_479 rfl ?_
  refine r_ifne_i (tgt := 503) G dL_law_481 (by decide) (by unfold kcT; (repeat' split) <;> omega) (fun h0 => ?_) (fun h0 => ?_)
  · obtain ⟨ez2, ey2⟩ := hk1 h0
    subst z2
    subst y2
    refine r_goto (tgt := 2128) G dL_law_503 (by decide) ?_
    refine r_sub (Lv' := lL b (a1 0) (a2 40) ao aD (5 * (n : Int))) [2, 3, 4, 5, 6, 7] rfl ?_
    exact kk z y y3 ga go (LI_q hI hRy3 hfr)
  · obtain ⟨r_, hga, hre⟩ := hk0 h0
    obtain ⟨rfl, ez2, ey2⟩ := hre
    subst z2
    subst y2
    obtain rfl := hb h0
    refine r_aload_n G 5 dL_law_484 rfl ?_
    refine r_iconst G dL_law_485 ?_
    refine r_lald (f := ga) G 0 rfl dL_law_486 ?_
    rw [hga]
    refine r_iload G 0 dL_law_487 rfl ?_
    refine r_lbool G dL_law_489 dL_law_492 dL_law_493 dL_law_496 ?_
    refine r_lcmp_same G dL_law_497 ?_
    refine r_ifeq_0 (tgt := 503) G dL_law_498 (by decide) ?_
    refine r_goto (tgt := 2128) G dL_law_503 (by decide) ?_
    refine r_sub (Lv' := lL b (a1 0) (a2 40) ao aD (5 * (n : Int))) [2, 3, 4, 5, 6, 7] rfl ?_
    exact kk z y y3 ga go (LI_q hI hRy3 hfr)
set_option maxHeartbeats 4000000 in
set_option maxRecDepth 100000 in
theorem lcase_4 (l : Launch) (hst : l.stackTraces = false) {p : Program} {e : Env} {s : State} {m : MethodId} {below : List Frame} {meth : Method} {c : Code} {D : va_G} {aC : Nat → ClassId} {a1 a2 : Nat → Nat} {ao aD b L : Nat} {xs : Nat → Int32} {Q : State → Prop} (G : lG p s m #[.ref b] meth c cL_law RL 9 D aC (lA s)) (hTh : wTh (lA s) s s.heap) (hNo : wNo s) (hX : va_X b L xs s s.heap) (hbl : b < s.heap.size) (hL : L ≤ 2560) {z y y' : wZ} {n : Nat} (hI : LI n z y y') (hn : 5 * n + 5 ≤ L) {fo : Nat → Int64} {go : Nat → UInt64} (kk : ∀ (z2 y2 y3 : wZ) (fo : Nat → Int64) (go : Nat → UInt64), LI (n + 1) z2 y2 y3 → JR p l e room_1 s m #[.ref b] below meth c 9 D (lA s) Q (100 + 5 * n + 5) (3000 + 30 * n + 30) (lW aC a1 a2 ao aD fo go (zc z2 y2) (zc z2 y3)) 2128 (lL b (a1 0) (a2 40) ao aD (5 * (n : Int))) []) : JR p l e room_1 s m #[.ref b] below meth c 9 D (lA s) Q (100 + 5 * n) (3000 + 30 * n) (lW aC a1 a2 ao aD fo go (zc z y) (zc z y')) 506 (lL b (a1 0) (a2 40) ao aD (5 * (n : Int))) [] := by
  obtain ⟨hR, hY, hY3, hCW, hMI, h6, h29⟩ := id hI
  have hWF := hCW.1
  obtain ⟨x1, e1, r1⟩ := sx_ex (xs (5 * n + 1))
  obtain ⟨x2, e2, r2⟩ := sx_ex (xs (5 * n + 2))
  obtain ⟨x3, e3, r3⟩ := sx_ex (xs (5 * n + 3))
  refine r_aload_n G 1 dL_law_506 rfl ?_
  refine r_scr (jn := 1) G hX hbl rfl (by omega) hL e1 0 5 rfl rfl dL_law_507 dL_law_508 dL_law_510 dL_law_511 dL_law_512 ?_
  refine r_scr (jn := 2) G hX hbl rfl (by omega) hL e2 0 5 rfl rfl dL_law_513 dL_law_514 dL_law_516 dL_law_517 dL_law_518 ?_
  refine r_scr (jn := 3) G hX hbl rfl (by omega) hL e3 0 5 rfl rfl dL_law_519 dL_law_520 dL_law_522 dL_law_523 dL_law_524 ?_
  refine r_bool G r3 dL_law_525 dL_law_528 dL_law_529 dL_law_532 ?_
  refine r_aload_n G 3 dL_law_533 rfl ?_
  refine r_ws (lW_L _ _ _ _ _ _ _ _ _) ?_
  refine r_calls (w0 := []) (w2 := [(aD, oD aC go)] ++ (wd aC a2 shM (zc z y') ++ [])) (wx := [(ao, oL aC fo)] ++ (wd aC a1 shC (zc z y) ++ [])) (As := [.ref (a1 0), vi x1, vi x2, vi (bz x3), .ref ao]) (st := []) (y0 := yL_minutes) (idx := 145) G hTh hNo KW_minutes (fun _ => lw_minutes l hst hR hY hCW x1 x2 r1 r2 (bz x3) (bz_01 x3)) rfl ⟨rfl, rfl, Nat.le_of_ble_eq_true rfl, Nat.le_of_ble_eq_true rfl⟩ ⟨by show 100 + 5 * n + 5 ≤ 3162; omega, by show 3000 + 30 * n + 30 ≤ 121779; omega⟩ (Nat.le_of_ble_eq_true rfl) dL_law_534 (fun i9 wx9 hp => ?_)
  obtain ⟨ga, z2, y2, rfl, rfl, hk0, hk1⟩ := hp
  refine r_ws (lW_L _ _ _ _ _ _ _ _ _).symm ?_
  refine r_istore (Lv' := [(6, vi (kcMn z (vb (bz x3)) x1 x2)), (0, .ref b), (1, .ref (a1 0)), (2, .ref (a2 40)), (3, .ref ao), (4, .ref aD), (5, vi (5 * (n : Int)))]) G dL_law_537 (by decide) rfl ?_
  refine r_aload_n G 3 dL_law_539 rfl ?_
  refine r_scr (jn := 1) G hX hbl rfl (by omega) hL e1 1 6 rfl rfl dL_law_540 dL_law_541 dL_law_543 dL_law_544 dL_law_545 ?_
  refine r_scr (jn := 2) G hX hbl rfl (by omega) hL e2 1 6 rfl rfl dL_law_546 dL_law_547 dL_law_549 dL_law_550 dL_law_551 ?_
  refine r_scr (jn := 3) G hX hbl rfl (by omega) hL e3 1 6 rfl rfl dL_law_552 dL_law_553 dL_law_555 dL_law_556 dL_law_557 ?_
  refine r_bool G r3 dL_law_558 dL_law_561 dL_law_562 dL_law_565 ?_
  refine r_ws (lW_M _ _ _ _ _ _ _ _ _) ?_
  refine r_calli (w0 := [(ao, oL aC ga)] ++ (wd aC a1 shC (zc z2 y2) ++ [(aD, oD aC go)])) (w2 := []) (ad := a2) (sh := shM) (z := z) (y := y') (q0 := 0) (nb := 40) (As := [vi x1, vi x2, vi (bz x3)]) (st := []) (y0 := yX8_minutes) (idx := 148) (C := RX8) G KM_minutes (fun hd => m_minutes_v l hd hR hY3 x1 x2 r1 r2 hWF (bz x3) (bz_01 x3)) rfl rfl rfl ⟨rfl, rfl, Nat.le_of_ble_eq_true rfl, Nat.le_of_ble_eq_true rfl⟩ ⟨by show 100 + 5 * n + 5 ≤ 3162; omega, by show 3000 + 30 * n + 30 ≤ 121779; omega⟩ (Nat.le_of_ble_eq_true rfl) dL_law_566 (fun b9 z3 y3 hp => ?_)
  obtain ⟨ez3, e71, hb, hRy3, hfr⟩ := hp
  subst z3
  have hRz3 := hR
  refine r_ws (lW_M _ _ _ _ _ _ _ _ _).symm ?_
  refine r_istore (Lv' := [(7, vi b9), (6, vi (kcMn z (vb (bz x3)) x1 x2)), (0, .ref b), (1, .ref (a1 0)), (2, .ref (a2 40)), (3, .ref ao), (4, .ref aD), (5, vi (5 * (n : Int)))]) G dL_law_569 (by decide) rfl ?_
  refine r_aload_n G 4 dL_law_571 rfl ?_
  refine r_ws (lW_M _ _ _ _ _ _ _ _ _) ?_
  refine r_calli (w0 := [(ao, oL aC ga)] ++ (wd aC a1 shC (zc z2 y2) ++ [(aD, oD aC go)])) (w2 := []) (ad := a2) (sh := shM) (z := z) (y := y3) (q0 := 0) (nb := 40) (As := []) (st := []) (y0 := yX8_thrown) (idx := 130) (C := RX8) G KM_thrown (fun hd => m_thrown l hd hRz3 hRy3) rfl rfl rfl ⟨rfl, rfl, Nat.le_of_ble_eq_true rfl, Nat.le_of_ble_eq_true rfl⟩ ⟨by show 100 + 5 * n + 5 ≤ 3162; omega, by show 3000 + 30 * n + 30 ≤ 121779; omega⟩ (Nat.le_of_ble_eq_true rfl) dL_law_572 (fun b8 z4 y4 hp => ?_)
  obtain ⟨rfl, ez4, ey4⟩ := hp
  subst z4
  subst y4
  rw [e71]
  refine r_ws (lW_M _ _ _ _ _ _ _ _ _).symm ?_
  refine r_iload G 1 dL_law_575 rfl ?_
  refine r_icmp_same (tgt := 582) G dL_law_577 (by decide) ?_
  refine r_iload G 1 dL_law_582 rfl ?_
  refine r_ifne_i (tgt := 599) G dL_law_584 (by decide) (by unfold kcMn; (repeat' split) <;> omega) (fun h0 => ?_) (fun h0 => ?_)
  · obtain ⟨ez2, ey2⟩ := hk1 h0
    subst z2
    subst y2
    refine r_goto (tgt := 2128) G dL_law_599 (by decide) ?_
    refine r_sub (Lv' := lL b (a1 0) (a2 40) ao aD (5 * (n : Int))) [2, 3, 4, 5, 6, 7] rfl ?_
    exact kk z y y3 ga go (LI_q hI hRy3 hfr)
  · obtain ⟨r_, hga, hre⟩ := hk0 h0
    obtain ⟨rfl, ez2, ey2⟩ := hre
    subst z2
    subst y2
    obtain rfl := hb h0
    refine r_aload_n G 5 dL_law_587 rfl ?_
    refine r_iconst G dL_law_588 ?_
    refine r_lald (f := ga) G 0 rfl dL_law_589 ?_
    rw [hga]
    refine r_iload G 0 dL_law_590 rfl ?_
    refine r_i2l G dL_law_592 ?_
    refine r_lcmp_same G dL_law_593 ?_
    refine r_ifeq_0 (tgt := 599) G dL_law_594 (by decide) ?_
    refine r_goto (tgt := 2128) G dL_law_599 (by decide) ?_
    refine r_sub (Lv' := lL b (a1 0) (a2 40) ao aD (5 * (n : Int))) [2, 3, 4, 5, 6, 7] rfl ?_
    exact kk z y y3 ga go (LI_q hI hRy3 hfr)
set_option maxHeartbeats 4000000 in
set_option maxRecDepth 100000 in
theorem lcase_5 (l : Launch) (hst : l.stackTraces = false) {p : Program} {e : Env} {s : State} {m : MethodId} {below : List Frame} {meth : Method} {c : Code} {D : va_G} {aC : Nat → ClassId} {a1 a2 : Nat → Nat} {ao aD b L : Nat} {xs : Nat → Int32} {Q : State → Prop} (G : lG p s m #[.ref b] meth c cL_law RL 9 D aC (lA s)) (hTh : wTh (lA s) s s.heap) (hNo : wNo s) (hX : va_X b L xs s s.heap) (hbl : b < s.heap.size) (hL : L ≤ 2560) {z y y' : wZ} {n : Nat} (hI : LI n z y y') (hn : 5 * n + 5 ≤ L) {fo : Nat → Int64} {go : Nat → UInt64} (kk : ∀ (z2 y2 y3 : wZ) (fo : Nat → Int64) (go : Nat → UInt64), LI (n + 1) z2 y2 y3 → JR p l e room_1 s m #[.ref b] below meth c 9 D (lA s) Q (100 + 5 * n + 5) (3000 + 30 * n + 30) (lW aC a1 a2 ao aD fo go (zc z2 y2) (zc z2 y3)) 2128 (lL b (a1 0) (a2 40) ao aD (5 * (n : Int))) []) : JR p l e room_1 s m #[.ref b] below meth c 9 D (lA s) Q (100 + 5 * n) (3000 + 30 * n) (lW aC a1 a2 ao aD fo go (zc z y) (zc z y')) 602 (lL b (a1 0) (a2 40) ao aD (5 * (n : Int))) [] := by
  obtain ⟨hR, hY, hY3, hCW, hMI, h6, h29⟩ := id hI
  have hWF := hCW.1
  obtain ⟨x1, e1, r1⟩ := sx_ex (xs (5 * n + 1))
  obtain ⟨x2, e2, r2⟩ := sx_ex (xs (5 * n + 2))
  refine r_aload_n G 1 dL_law_602 rfl ?_
  refine r_scr (jn := 1) G hX hbl rfl (by omega) hL e1 0 5 rfl rfl dL_law_603 dL_law_604 dL_law_606 dL_law_607 dL_law_608 ?_
  refine r_scr (jn := 2) G hX hbl rfl (by omega) hL e2 0 5 rfl rfl dL_law_609 dL_law_610 dL_law_612 dL_law_613 dL_law_614 ?_
  refine r_aload_n G 3 dL_law_615 rfl ?_
  refine r_ws (lW_L _ _ _ _ _ _ _ _ _) ?_
  refine r_calls (w0 := []) (w2 := [(aD, oD aC go)] ++ (wd aC a2 shM (zc z y') ++ [])) (wx := [(ao, oL aC fo)] ++ (wd aC a1 shC (zc z y) ++ [])) (As := [.ref (a1 0), vi x1, vi x2, .ref ao]) (st := []) (y0 := yL_firstTrail) (idx := 149) G hTh hNo KW_firstTrail (fun _ => lw_firstTrail l hst hR hY hCW x1 x2 r1 r2) rfl ⟨rfl, rfl, Nat.le_of_ble_eq_true rfl, Nat.le_of_ble_eq_true rfl⟩ ⟨by show 100 + 5 * n + 5 ≤ 3162; omega, by show 3000 + 30 * n + 30 ≤ 121779; omega⟩ (Nat.le_of_ble_eq_true rfl) dL_law_616 (fun i9 wx9 hp => ?_)
  obtain ⟨ga, z2, y2, rfl, rfl, hk0, hk1⟩ := hp
  refine r_ws (lW_L _ _ _ _ _ _ _ _ _).symm ?_
  refine r_istore (Lv' := [(6, vi (kcFT z x1 x2)), (0, .ref b), (1, .ref (a1 0)), (2, .ref (a2 40)), (3, .ref ao), (4, .ref aD), (5, vi (5 * (n : Int)))]) G dL_law_619 (by decide) rfl ?_
  refine r_aload_n G 3 dL_law_621 rfl ?_
  refine r_scr (jn := 1) G hX hbl rfl (by omega) hL e1 1 6 rfl rfl dL_law_622 dL_law_623 dL_law_625 dL_law_626 dL_law_627 ?_
  refine r_scr (jn := 2) G hX hbl rfl (by omega) hL e2 1 6 rfl rfl dL_law_628 dL_law_629 dL_law_631 dL_law_632 dL_law_633 ?_
  refine r_ws (lW_M _ _ _ _ _ _ _ _ _) ?_
  refine r_calli (w0 := [(ao, oL aC ga)] ++ (wd aC a1 shC (zc z2 y2) ++ [(aD, oD aC go)])) (w2 := []) (ad := a2) (sh := shM) (z := z) (y := y') (q0 := 0) (nb := 40) (As := [vi x1, vi x2]) (st := []) (y0 := yX8_firstTrail) (idx := 152) (C := RX8) G KM_firstTrail (fun hd => m_firstTrail l hd hR hY3 x1 x2 r1 r2 hWF) rfl rfl rfl ⟨rfl, rfl, Nat.le_of_ble_eq_true rfl, Nat.le_of_ble_eq_true rfl⟩ ⟨by show 100 + 5 * n + 5 ≤ 3162; omega, by show 3000 + 30 * n + 30 ≤ 121779; omega⟩ (Nat.le_of_ble_eq_true rfl) dL_law_634 (fun b9 z3 y3 hp => ?_)
  obtain ⟨ez3, e71, hb, hRy3, hfr⟩ := hp
  subst z3
  have hRz3 := hR
  refine r_ws (lW_M _ _ _ _ _ _ _ _ _).symm ?_
  refine r_istore (Lv' := [(7, vi b9), (6, vi (kcFT z x1 x2)), (0, .ref b), (1, .ref (a1 0)), (2, .ref (a2 40)), (3, .ref ao), (4, .ref aD), (5, vi (5 * (n : Int)))]) G dL_law_637 (by decide) rfl ?_
  refine r_aload_n G 4 dL_law_639 rfl ?_
  refine r_ws (lW_M _ _ _ _ _ _ _ _ _) ?_
  refine r_calli (w0 := [(ao, oL aC ga)] ++ (wd aC a1 shC (zc z2 y2) ++ [(aD, oD aC go)])) (w2 := []) (ad := a2) (sh := shM) (z := z) (y := y3) (q0 := 0) (nb := 40) (As := []) (st := []) (y0 := yX8_thrown) (idx := 130) (C := RX8) G KM_thrown (fun hd => m_thrown l hd hRz3 hRy3) rfl rfl rfl ⟨rfl, rfl, Nat.le_of_ble_eq_true rfl, Nat.le_of_ble_eq_true rfl⟩ ⟨by show 100 + 5 * n + 5 ≤ 3162; omega, by show 3000 + 30 * n + 30 ≤ 121779; omega⟩ (Nat.le_of_ble_eq_true rfl) dL_law_640 (fun b8 z4 y4 hp => ?_)
  obtain ⟨rfl, ez4, ey4⟩ := hp
  subst z4
  subst y4
  rw [e71]
  refine r_ws (lW_M _ _ _ _ _ _ _ _ _).symm ?_
  refine r_iload G 1 dL_law_643 rfl ?_
  refine r_icmp_same (tgt := 650) G dL_law_645 (by decide) ?_
  refine r_iload G 1 dL_law_650 rfl ?_
  refine r_ifne_i (tgt := 667) G dL_law_652 (by decide) (by unfold kcFT; (repeat' split) <;> omega) (fun h0 => ?_) (fun h0 => ?_)
  · obtain ⟨ez2, ey2⟩ := hk1 h0
    subst z2
    subst y2
    refine r_goto (tgt := 2128) G dL_law_667 (by decide) ?_
    refine r_sub (Lv' := lL b (a1 0) (a2 40) ao aD (5 * (n : Int))) [2, 3, 4, 5, 6, 7] rfl ?_
    exact kk z y y3 ga go (LI_q hI hRy3 hfr)
  · obtain ⟨r_, hga, hre⟩ := hk0 h0
    obtain ⟨rfl, ez2, ey2⟩ := hre
    subst z2
    subst y2
    obtain rfl := hb h0
    refine r_aload_n G 5 dL_law_655 rfl ?_
    refine r_iconst G dL_law_656 ?_
    refine r_lald (f := ga) G 0 rfl dL_law_657 ?_
    rw [hga]
    refine r_iload G 0 dL_law_658 rfl ?_
    refine r_i2l G dL_law_660 ?_
    refine r_lcmp_same G dL_law_661 ?_
    refine r_ifeq_0 (tgt := 667) G dL_law_662 (by decide) ?_
    refine r_goto (tgt := 2128) G dL_law_667 (by decide) ?_
    refine r_sub (Lv' := lL b (a1 0) (a2 40) ao aD (5 * (n : Int))) [2, 3, 4, 5, 6, 7] rfl ?_
    exact kk z y y3 ga go (LI_q hI hRy3 hfr)
set_option maxHeartbeats 4000000 in
set_option maxRecDepth 100000 in
theorem lcase_6 (l : Launch) (hst : l.stackTraces = false) {p : Program} {e : Env} {s : State} {m : MethodId} {below : List Frame} {meth : Method} {c : Code} {D : va_G} {aC : Nat → ClassId} {a1 a2 : Nat → Nat} {ao aD b L : Nat} {xs : Nat → Int32} {Q : State → Prop} (G : lG p s m #[.ref b] meth c cL_law RL 9 D aC (lA s)) (hTh : wTh (lA s) s s.heap) (hNo : wNo s) (hX : va_X b L xs s s.heap) (hbl : b < s.heap.size) (hL : L ≤ 2560) {z y y' : wZ} {n : Nat} (hI : LI n z y y') (hn : 5 * n + 5 ≤ L) {fo : Nat → Int64} {go : Nat → UInt64} (kk : ∀ (z2 y2 y3 : wZ) (fo : Nat → Int64) (go : Nat → UInt64), LI (n + 1) z2 y2 y3 → JR p l e room_1 s m #[.ref b] below meth c 9 D (lA s) Q (100 + 5 * n + 5) (3000 + 30 * n + 30) (lW aC a1 a2 ao aD fo go (zc z2 y2) (zc z2 y3)) 2128 (lL b (a1 0) (a2 40) ao aD (5 * (n : Int))) []) : JR p l e room_1 s m #[.ref b] below meth c 9 D (lA s) Q (100 + 5 * n) (3000 + 30 * n) (lW aC a1 a2 ao aD fo go (zc z y) (zc z y')) 670 (lL b (a1 0) (a2 40) ao aD (5 * (n : Int))) [] := by
  obtain ⟨hR, hY, hY3, hCW, hMI, h6, h29⟩ := id hI
  have hWF := hCW.1
  obtain ⟨x1, e1, r1⟩ := sx_ex (xs (5 * n + 1))
  refine r_aload_n G 1 dL_law_670 rfl ?_
  refine r_scr (jn := 1) G hX hbl rfl (by omega) hL e1 0 5 rfl rfl dL_law_671 dL_law_672 dL_law_674 dL_law_675 dL_law_676 ?_
  refine r_aload_n G 3 dL_law_677 rfl ?_
  refine r_ws (lW_L _ _ _ _ _ _ _ _ _) ?_
  refine r_calls (w0 := []) (w2 := [(aD, oD aC go)] ++ (wd aC a2 shM (zc z y') ++ [])) (wx := [(ao, oL aC fo)] ++ (wd aC a1 shC (zc z y) ++ [])) (As := [.ref (a1 0), vi x1, .ref ao]) (st := []) (y0 := yL_addWood) (idx := 153) G hTh hNo KW_addWood (fun _ => lw_addWood l hst hR hY hCW x1 r1 (by omega)) rfl ⟨rfl, rfl, Nat.le_of_ble_eq_true rfl, Nat.le_of_ble_eq_true rfl⟩ ⟨by show 100 + 5 * n + 5 ≤ 3162; omega, by show 3000 + 30 * n + 30 ≤ 121779; omega⟩ (Nat.le_of_ble_eq_true rfl) dL_law_678 (fun i9 wx9 hp => ?_)
  obtain ⟨ga, z2, y2, rfl, rfl, hk0, hk1⟩ := hp
  refine r_ws (lW_L _ _ _ _ _ _ _ _ _).symm ?_
  refine r_istore (Lv' := [(6, vi (kcAW x1)), (0, .ref b), (1, .ref (a1 0)), (2, .ref (a2 40)), (3, .ref ao), (4, .ref aD), (5, vi (5 * (n : Int)))]) G dL_law_681 (by decide) rfl ?_
  refine r_aload_n G 3 dL_law_683 rfl ?_
  refine r_scr (jn := 1) G hX hbl rfl (by omega) hL e1 1 6 rfl rfl dL_law_684 dL_law_685 dL_law_687 dL_law_688 dL_law_689 ?_
  refine r_ws (lW_M _ _ _ _ _ _ _ _ _) ?_
  refine r_calli (w0 := [(ao, oL aC ga)] ++ (wd aC a1 shC (zc z2 y2) ++ [(aD, oD aC go)])) (w2 := []) (ad := a2) (sh := shM) (z := z) (y := y') (q0 := 0) (nb := 40) (As := [vi x1]) (st := []) (y0 := yX8_addWood) (idx := 155) (C := RX8) G KM_addWood (fun hd => m_addWood l hd hR hY3 x1 r1 (by omega)) rfl rfl rfl ⟨rfl, rfl, Nat.le_of_ble_eq_true rfl, Nat.le_of_ble_eq_true rfl⟩ ⟨by show 100 + 5 * n + 5 ≤ 3162; omega, by show 3000 + 30 * n + 30 ≤ 121779; omega⟩ (Nat.le_of_ble_eq_true rfl) dL_law_690 (fun b9 z3 y3 hp => ?_)
  obtain ⟨e71, hb, hb1, hRz3, hRy3, hfr⟩ := hp
  refine r_ws (lW_M _ _ _ _ _ _ _ _ _).symm ?_
  refine r_istore (Lv' := [(7, vi b9), (6, vi (kcAW x1)), (0, .ref b), (1, .ref (a1 0)), (2, .ref (a2 40)), (3, .ref ao), (4, .ref aD), (5, vi (5 * (n : Int)))]) G dL_law_693 (by decide) rfl ?_
  refine r_aload_n G 4 dL_law_695 rfl ?_
  refine r_ws (lW_M _ _ _ _ _ _ _ _ _) ?_
  refine r_calli (w0 := [(ao, oL aC ga)] ++ (wd aC a1 shC (zc z2 y2) ++ [(aD, oD aC go)])) (w2 := []) (ad := a2) (sh := shM) (z := z3) (y := y3) (q0 := 0) (nb := 40) (As := []) (st := []) (y0 := yX8_thrown) (idx := 130) (C := RX8) G KM_thrown (fun hd => m_thrown l hd hRz3 hRy3) rfl rfl rfl ⟨rfl, rfl, Nat.le_of_ble_eq_true rfl, Nat.le_of_ble_eq_true rfl⟩ ⟨by show 100 + 5 * n + 5 ≤ 3162; omega, by show 3000 + 30 * n + 30 ≤ 121779; omega⟩ (Nat.le_of_ble_eq_true rfl) dL_law_696 (fun b8 z4 y4 hp => ?_)
  obtain ⟨rfl, ez4, ey4⟩ := hp
  subst z4
  subst y4
  rw [e71]
  refine r_ws (lW_M _ _ _ _ _ _ _ _ _).symm ?_
  refine r_iload G 1 dL_law_699 rfl ?_
  refine r_icmp_same (tgt := 706) G dL_law_701 (by decide) ?_
  refine r_iload G 1 dL_law_706 rfl ?_
  refine r_ifne_i (tgt := 723) G dL_law_708 (by decide) (by unfold kcAW; (repeat' split) <;> omega) (fun h0 => ?_) (fun h0 => ?_)
  · obtain ⟨ez2, ey2⟩ := hk1 h0
    subst z2
    subst y2
    have ez3 := hb1 h0
    subst z3
    refine r_goto (tgt := 2128) G dL_law_723 (by decide) ?_
    refine r_sub (Lv' := lL b (a1 0) (a2 40) ao aD (5 * (n : Int))) [2, 3, 4, 5, 6, 7] rfl ?_
    exact kk z y y3 ga go (LI_q hI hRy3 hfr)
  · obtain ⟨r_, hga, hre⟩ := hk0 h0
    obtain ⟨rfl, ez2, hRz2, hRy2, hCW2⟩ := hre
    subst z2
    obtain ⟨rfl, ez3⟩ := hb h0
    subst z3
    refine r_aload_n G 5 dL_law_711 rfl ?_
    refine r_iconst G dL_law_712 ?_
    refine r_lald (f := ga) G 0 rfl dL_law_713 ?_
    rw [hga]
    refine r_iload G 0 dL_law_714 rfl ?_
    refine r_i2l G dL_law_716 ?_
    refine r_lcmp_same G dL_law_717 ?_
    refine r_ifeq_0 (tgt := 723) G dL_law_718 (by decide) ?_
    refine r_goto (tgt := 2128) G dL_law_723 (by decide) ?_
    refine r_sub (Lv' := lL b (a1 0) (a2 40) ao aD (5 * (n : Int))) [2, 3, 4, 5, 6, 7] rfl ?_
    exact kk _ y2 y3 ga go (LI_u hI hRz2 hRy2 hRy3 hCW2 hfr (by rw [zp_same]; unfold kcAW at h0; split at h0 <;> omega) (zp_nk _ (by decide)) (zp_nk _ (by decide)) (zp_nk _ (by decide)))
set_option maxHeartbeats 4000000 in
set_option maxRecDepth 100000 in
theorem lcase_7 (l : Launch) (hst : l.stackTraces = false) {p : Program} {e : Env} {s : State} {m : MethodId} {below : List Frame} {meth : Method} {c : Code} {D : va_G} {aC : Nat → ClassId} {a1 a2 : Nat → Nat} {ao aD b L : Nat} {xs : Nat → Int32} {Q : State → Prop} (G : lG p s m #[.ref b] meth c cL_law RL 9 D aC (lA s)) (hTh : wTh (lA s) s s.heap) (hNo : wNo s) (hX : va_X b L xs s s.heap) (hbl : b < s.heap.size) (hL : L ≤ 2560) {z y y' : wZ} {n : Nat} (hI : LI n z y y') (hn : 5 * n + 5 ≤ L) {fo : Nat → Int64} {go : Nat → UInt64} (kk : ∀ (z2 y2 y3 : wZ) (fo : Nat → Int64) (go : Nat → UInt64), LI (n + 1) z2 y2 y3 → JR p l e room_1 s m #[.ref b] below meth c 9 D (lA s) Q (100 + 5 * n + 5) (3000 + 30 * n + 30) (lW aC a1 a2 ao aD fo go (zc z2 y2) (zc z2 y3)) 2128 (lL b (a1 0) (a2 40) ao aD (5 * (n : Int))) []) : JR p l e room_1 s m #[.ref b] below meth c 9 D (lA s) Q (100 + 5 * n) (3000 + 30 * n) (lW aC a1 a2 ao aD fo go (zc z y) (zc z y')) 726 (lL b (a1 0) (a2 40) ao aD (5 * (n : Int))) [] := by
  obtain ⟨hR, hY, hY3, hCW, hMI, h6, h29⟩ := id hI
  have hWF := hCW.1
  obtain ⟨x1, e1, r1⟩ := sx_ex (xs (5 * n + 1))
  obtain ⟨x2, e2, r2⟩ := sx_ex (xs (5 * n + 2))
  refine r_aload_n G 1 dL_law_726 rfl ?_
  refine r_scr (jn := 1) G hX hbl rfl (by omega) hL e1 0 5 rfl rfl dL_law_727 dL_law_728 dL_law_730 dL_law_731 dL_law_732 ?_
  refine r_scr (jn := 2) G hX hbl rfl (by omega) hL e2 0 5 rfl rfl dL_law_733 dL_law_734 dL_law_736 dL_law_737 dL_law_738 ?_
  refine r_aload_n G 3 dL_law_739 rfl ?_
  refine r_ws (lW_L _ _ _ _ _ _ _ _ _) ?_
  refine r_calls (w0 := []) (w2 := [(aD, oD aC go)] ++ (wd aC a2 shM (zc z y') ++ [])) (wx := [(ao, oL aC fo)] ++ (wd aC a1 shC (zc z y) ++ [])) (As := [.ref (a1 0), vi x1, vi x2, .ref ao]) (st := []) (y0 := yL_cut) (idx := 156) G hTh hNo KW_cut (fun _ => lw_cut l hst hR hY hCW x1 x2 r1 r2) rfl ⟨rfl, rfl, Nat.le_of_ble_eq_true rfl, Nat.le_of_ble_eq_true rfl⟩ ⟨by show 100 + 5 * n + 5 ≤ 3162; omega, by show 3000 + 30 * n + 30 ≤ 121779; omega⟩ (Nat.le_of_ble_eq_true rfl) dL_law_740 (fun i9 wx9 hp => ?_)
  obtain ⟨ga, z2, y2, rfl, rfl, hk0, hk1⟩ := hp
  refine r_ws (lW_L _ _ _ _ _ _ _ _ _).symm ?_
  refine r_istore (Lv' := [(6, vi (kcCu z x1 x2)), (0, .ref b), (1, .ref (a1 0)), (2, .ref (a2 40)), (3, .ref ao), (4, .ref aD), (5, vi (5 * (n : Int)))]) G dL_law_743 (by decide) rfl ?_
  refine r_aload_n G 3 dL_law_745 rfl ?_
  refine r_scr (jn := 1) G hX hbl rfl (by omega) hL e1 1 6 rfl rfl dL_law_746 dL_law_747 dL_law_749 dL_law_750 dL_law_751 ?_
  refine r_scr (jn := 2) G hX hbl rfl (by omega) hL e2 1 6 rfl rfl dL_law_752 dL_law_753 dL_law_755 dL_law_756 dL_law_757 ?_
  refine r_ws (lW_M _ _ _ _ _ _ _ _ _) ?_
  refine r_calli (w0 := [(ao, oL aC ga)] ++ (wd aC a1 shC (zc z2 y2) ++ [(aD, oD aC go)])) (w2 := []) (ad := a2) (sh := shM) (z := z) (y := y') (q0 := 0) (nb := 40) (As := [vi x1, vi x2]) (st := []) (y0 := yX8_cut) (idx := 158) (C := RX8) G KM_cut (fun hd => m_cut l hd hR hY3 x1 x2 r1 r2 hWF) rfl rfl rfl ⟨rfl, rfl, Nat.le_of_ble_eq_true rfl, Nat.le_of_ble_eq_true rfl⟩ ⟨by show 100 + 5 * n + 5 ≤ 3162; omega, by show 3000 + 30 * n + 30 ≤ 121779; omega⟩ (Nat.le_of_ble_eq_true rfl) dL_law_758 (fun b9 z3 y3 hp => ?_)
  obtain ⟨e71, hb, hb1, hRz3, hRy3, hfr⟩ := hp
  refine r_ws (lW_M _ _ _ _ _ _ _ _ _).symm ?_
  refine r_istore (Lv' := [(7, vi b9), (6, vi (kcCu z x1 x2)), (0, .ref b), (1, .ref (a1 0)), (2, .ref (a2 40)), (3, .ref ao), (4, .ref aD), (5, vi (5 * (n : Int)))]) G dL_law_761 (by decide) rfl ?_
  refine r_aload_n G 4 dL_law_763 rfl ?_
  refine r_ws (lW_M _ _ _ _ _ _ _ _ _) ?_
  refine r_calli (w0 := [(ao, oL aC ga)] ++ (wd aC a1 shC (zc z2 y2) ++ [(aD, oD aC go)])) (w2 := []) (ad := a2) (sh := shM) (z := z3) (y := y3) (q0 := 0) (nb := 40) (As := []) (st := []) (y0 := yX8_thrown) (idx := 130) (C := RX8) G KM_thrown (fun hd => m_thrown l hd hRz3 hRy3) rfl rfl rfl ⟨rfl, rfl, Nat.le_of_ble_eq_true rfl, Nat.le_of_ble_eq_true rfl⟩ ⟨by show 100 + 5 * n + 5 ≤ 3162; omega, by show 3000 + 30 * n + 30 ≤ 121779; omega⟩ (Nat.le_of_ble_eq_true rfl) dL_law_764 (fun b8 z4 y4 hp => ?_)
  obtain ⟨rfl, ez4, ey4⟩ := hp
  subst z4
  subst y4
  rw [e71]
  refine r_ws (lW_M _ _ _ _ _ _ _ _ _).symm ?_
  refine r_iload G 1 dL_law_767 rfl ?_
  refine r_icmp_same (tgt := 774) G dL_law_769 (by decide) ?_
  refine r_iload G 1 dL_law_774 rfl ?_
  refine r_ifne_i (tgt := 791) G dL_law_776 (by decide) (by unfold kcCu; (repeat' split) <;> omega) (fun h0 => ?_) (fun h0 => ?_)
  · obtain ⟨ez2, ey2⟩ := hk1 h0
    subst z2
    subst y2
    have ez3 := hb1 h0
    subst z3
    refine r_goto (tgt := 2128) G dL_law_791 (by decide) ?_
    refine r_sub (Lv' := lL b (a1 0) (a2 40) ao aD (5 * (n : Int))) [2, 3, 4, 5, 6, 7] rfl ?_
    exact kk z y y3 ga go (LI_q hI hRy3 hfr)
  · obtain ⟨r_, hga, hre⟩ := hk0 h0
    obtain ⟨rfl, ez2, hRz2, hRy2, hCW2⟩ := hre
    subst z2
    obtain ⟨rfl, ez3⟩ := hb h0
    subst z3
    refine r_aload_n G 5 dL_law_779 rfl ?_
    refine r_iconst G dL_law_780 ?_
    refine r_lald (f := ga) G 0 rfl dL_law_781 ?_
    rw [hga]
    refine r_iload G 0 dL_law_782 rfl ?_
    refine r_i2l G dL_law_784 ?_
    refine r_lcmp_same G dL_law_785 ?_
    refine r_ifeq_0 (tgt := 791) G dL_law_786 (by decide) ?_
    refine r_goto (tgt := 2128) G dL_law_791 (by decide) ?_
    refine r_sub (Lv' := lL b (a1 0) (a2 40) ao aD (5 * (n : Int))) [2, 3, 4, 5, 6, 7] rfl ?_
    exact kk _ y2 y3 ga go (LI_u hI hRz2 hRy2 hRy3 hCW2 hfr (by rw [cuF_6]; omega) (cuF_k _ _ _ ⟨by decide, by decide, by decide, by decide, by decide, by decide, by decide⟩) (cuF_k _ _ _ ⟨by decide, by decide, by decide, by decide, by decide, by decide, by decide⟩) (cuF_k _ _ _ ⟨by decide, by decide, by decide, by decide, by decide, by decide, by decide⟩))
