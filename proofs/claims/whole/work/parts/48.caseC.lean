/-! THE LAW, cases 16 to 23 -/
set_option maxHeartbeats 4000000 in
set_option maxRecDepth 100000 in
theorem lcase_16 (l : Launch) (hst : l.stackTraces = false) {p : Program} {e : Env} {s : State} {m : MethodId} {below : List Frame} {meth : Method} {c : Code} {D : va_G} {aC : Nat → ClassId} {a1 a2 : Nat → Nat} {ao aD b L : Nat} {xs : Nat → Int32} {Q : State → Prop} (G : lG p s m #[.ref b] meth c cL_law RL 9 D aC (lA s)) (hTh : wTh (lA s) s s.heap) (hNo : wNo s) (hX : va_X b L xs s s.heap) (hbl : b < s.heap.size) (hL : L ≤ 2560) {z y y' : wZ} {n : Nat} (hI : LI n z y y') (hn : 5 * n + 5 ≤ L) {fo : Nat → Int64} {go : Nat → UInt64} (kk : ∀ (z2 y2 y3 : wZ) (fo : Nat → Int64) (go : Nat → UInt64), LI (n + 1) z2 y2 y3 → JR p l e room_1 s m #[.ref b] below meth c 9 D (lA s) Q (100 + 5 * n + 5) (3000 + 30 * n + 30) (lW aC a1 a2 ao aD fo go (zc z2 y2) (zc z2 y3)) 2128 (lL b (a1 0) (a2 40) ao aD (5 * (n : Int))) []) : JR p l e room_1 s m #[.ref b] below meth c 9 D (lA s) Q (100 + 5 * n) (3000 + 30 * n) (lW aC a1 a2 ao aD fo go (zc z y) (zc z y')) 1309 (lL b (a1 0) (a2 40) ao aD (5 * (n : Int))) [] := by
  obtain ⟨hR, hY, hY3, hCW, hMI, h6, h29⟩ := id hI
  have hWF := hCW.1
  obtain ⟨x1, e1, r1⟩ := sx_ex (xs (5 * n + 1))
  obtain ⟨x2, e2, r2⟩ := sx_ex (xs (5 * n + 2))
  obtain ⟨x3, e3, r3⟩ := sx_ex (xs (5 * n + 3))
  obtain ⟨xc1, ec1, rc1⟩ := sc_ex (Int32.ofInt x1)
  refine r_aload_n G 1 dL_law_1309 rfl ?_
  refine r_scr (jn := 1) G hX hbl rfl (by omega) hL e1 0 5 rfl rfl dL_law_1310 dL_law_1311 dL_law_1313 dL_law_1314 dL_law_1315 ?_
  refine r_i2c G dL_law_1316 ?_
  rw [ec1]
  refine r_scr (jn := 2) G hX hbl rfl (by omega) hL e2 0 5 rfl rfl dL_law_1317 dL_law_1318 dL_law_1320 dL_law_1321 dL_law_1322 ?_
  refine r_scr (jn := 3) G hX hbl rfl (by omega) hL e3 0 5 rfl rfl dL_law_1323 dL_law_1324 dL_law_1326 dL_law_1327 dL_law_1328 ?_
  refine r_aload_n G 3 dL_law_1329 rfl ?_
  refine r_ws (lW_L _ _ _ _ _ _ _ _ _) ?_
  refine r_calls (w0 := []) (w2 := [(aD, oD aC go)] ++ (wd aC a2 shM (zc z y') ++ [])) (wx := [(ao, oL aC fo)] ++ (wd aC a1 shC (zc z y) ++ [])) (As := [.ref (a1 0), vi xc1, vi x2, vi x3, .ref ao]) (st := []) (y0 := yL_addTask) (idx := 184) G hTh hNo KW_addTask (fun _ => lw_addTask l hst hR hY hCW xc1 x2 x3 r2 r3 rc1) rfl ⟨rfl, rfl, Nat.le_of_ble_eq_true rfl, Nat.le_of_ble_eq_true rfl⟩ ⟨by show 100 + 5 * n + 5 ≤ 3162; omega, by show 3000 + 30 * n + 30 ≤ 121779; omega⟩ (Nat.le_of_ble_eq_true rfl) dL_law_1330 (fun i9 wx9 hp => ?_)
  obtain ⟨ga, z2, y2, rfl, rfl, hk0, hk1⟩ := hp
  refine r_ws (lW_L _ _ _ _ _ _ _ _ _).symm ?_
  refine r_istore (Lv' := [(6, vi (kcAK z xc1 x2 x3)), (0, .ref b), (1, .ref (a1 0)), (2, .ref (a2 40)), (3, .ref ao), (4, .ref aD), (5, vi (5 * (n : Int)))]) G dL_law_1333 (by decide) rfl ?_
  refine r_aload_n G 3 dL_law_1335 rfl ?_
  refine r_scr (jn := 1) G hX hbl rfl (by omega) hL e1 1 6 rfl rfl dL_law_1336 dL_law_1337 dL_law_1339 dL_law_1340 dL_law_1341 ?_
  refine r_i2c G dL_law_1342 ?_
  rw [ec1]
  refine r_scr (jn := 2) G hX hbl rfl (by omega) hL e2 1 6 rfl rfl dL_law_1343 dL_law_1344 dL_law_1346 dL_law_1347 dL_law_1348 ?_
  refine r_scr (jn := 3) G hX hbl rfl (by omega) hL e3 1 6 rfl rfl dL_law_1349 dL_law_1350 dL_law_1352 dL_law_1353 dL_law_1354 ?_
  refine r_ws (lW_M _ _ _ _ _ _ _ _ _) ?_
  refine r_calli (w0 := [(ao, oL aC ga)] ++ (wd aC a1 shC (zc z2 y2) ++ [(aD, oD aC go)])) (w2 := []) (ad := a2) (sh := shM) (z := z) (y := y') (q0 := 0) (nb := 40) (As := [vi xc1, vi x2, vi x3]) (st := []) (y0 := yX8_addTask) (idx := 187) (C := RX8) G KM_addTask (fun hd => m_addTask l hd hR hY3 xc1 x2 x3 r2 r3 rc1) rfl rfl rfl ⟨rfl, rfl, Nat.le_of_ble_eq_true rfl, Nat.le_of_ble_eq_true rfl⟩ ⟨by show 100 + 5 * n + 5 ≤ 3162; omega, by show 3000 + 30 * n + 30 ≤ 121779; omega⟩ (Nat.le_of_ble_eq_true rfl) dL_law_1355 (fun b9 z3 y3 hp => ?_)
  obtain ⟨e71, hb, hb1, hRz3, hRy3, hfr⟩ := hp
  refine r_ws (lW_M _ _ _ _ _ _ _ _ _).symm ?_
  refine r_istore (Lv' := [(7, vi b9), (6, vi (kcAK z xc1 x2 x3)), (0, .ref b), (1, .ref (a1 0)), (2, .ref (a2 40)), (3, .ref ao), (4, .ref aD), (5, vi (5 * (n : Int)))]) G dL_law_1358 (by decide) rfl ?_
  refine r_aload_n G 4 dL_law_1360 rfl ?_
  refine r_ws (lW_M _ _ _ _ _ _ _ _ _) ?_
  refine r_calli (w0 := [(ao, oL aC ga)] ++ (wd aC a1 shC (zc z2 y2) ++ [(aD, oD aC go)])) (w2 := []) (ad := a2) (sh := shM) (z := z3) (y := y3) (q0 := 0) (nb := 40) (As := []) (st := []) (y0 := yX8_thrown) (idx := 130) (C := RX8) G KM_thrown (fun hd => m_thrown l hd hRz3 hRy3) rfl rfl rfl ⟨rfl, rfl, Nat.le_of_ble_eq_true rfl, Nat.le_of_ble_eq_true rfl⟩ ⟨by show 100 + 5 * n + 5 ≤ 3162; omega, by show 3000 + 30 * n + 30 ≤ 121779; omega⟩ (Nat.le_of_ble_eq_true rfl) dL_law_1361 (fun b8 z4 y4 hp => ?_)
  obtain ⟨rfl, ez4, ey4⟩ := hp
  subst z4
  subst y4
  rw [e71]
  refine r_ws (lW_M _ _ _ _ _ _ _ _ _).symm ?_
  refine r_iload G 1 dL_law_1364 rfl ?_
  refine r_icmp_same (tgt := 1371) G dL_law_1366 (by decide) ?_
  refine r_iload G 1 dL_law_1371 rfl ?_
  refine r_ifne_i (tgt := 1388) G dL_law_1373 (by decide) (by unfold kcAK; (repeat' split) <;> omega) (fun h0 => ?_) (fun h0 => ?_)
  · obtain ⟨ez2, ey2⟩ := hk1 h0
    subst z2
    subst y2
    have ez3 := hb1 h0
    subst z3
    refine r_goto (tgt := 2128) G dL_law_1388 (by decide) ?_
    refine r_sub (Lv' := lL b (a1 0) (a2 40) ao aD (5 * (n : Int))) [2, 3, 4, 5, 6, 7] rfl ?_
    exact kk z y y3 ga go (LI_q hI hRy3 hfr)
  · obtain ⟨r_, hga, hre⟩ := hk0 h0
    obtain ⟨rfl, ez2, hRz2, hRy2, hCW2⟩ := hre
    subst z2
    obtain ⟨rfl, ez3⟩ := hb h0
    subst z3
    refine r_aload_n G 5 dL_law_1376 rfl ?_
    refine r_iconst G dL_law_1377 ?_
    refine r_lald (f := ga) G 0 rfl dL_law_1378 ?_
    rw [hga]
    refine r_iload G 0 dL_law_1379 rfl ?_
    refine r_i2l G dL_law_1381 ?_
    refine r_lcmp_same G dL_law_1382 ?_
    refine r_ifeq_0 (tgt := 1388) G dL_law_1383 (by decide) ?_
    refine r_goto (tgt := 2128) G dL_law_1388 (by decide) ?_
    refine r_sub (Lv' := lL b (a1 0) (a2 40) ao aD (5 * (n : Int))) [2, 3, 4, 5, 6, 7] rfl ?_
    exact kk _ y2 y3 ga go (LI_u hI hRz2 hRy2 hRy3 hCW2 hfr (by rw [LmkF_k _ _ _ _ ⟨by decide, by decide, by decide, by decide, by decide⟩]; omega) (LmkF_k _ _ _ _ ⟨by decide, by decide, by decide, by decide, by decide⟩) (LmkF_k _ _ _ _ ⟨by decide, by decide, by decide, by decide, by decide⟩) (LmkF_k _ _ _ _ ⟨by decide, by decide, by decide, by decide, by decide⟩))
set_option maxHeartbeats 4000000 in
set_option maxRecDepth 100000 in
theorem lcase_17 (l : Launch) (hst : l.stackTraces = false) {p : Program} {e : Env} {s : State} {m : MethodId} {below : List Frame} {meth : Method} {c : Code} {D : va_G} {aC : Nat → ClassId} {a1 a2 : Nat → Nat} {ao aD b L : Nat} {xs : Nat → Int32} {Q : State → Prop} (G : lG p s m #[.ref b] meth c cL_law RL 9 D aC (lA s)) (hTh : wTh (lA s) s s.heap) (hNo : wNo s) (hX : va_X b L xs s s.heap) (hbl : b < s.heap.size) (hL : L ≤ 2560) {z y y' : wZ} {n : Nat} (hI : LI n z y y') (hn : 5 * n + 5 ≤ L) {fo : Nat → Int64} {go : Nat → UInt64} (kk : ∀ (z2 y2 y3 : wZ) (fo : Nat → Int64) (go : Nat → UInt64), LI (n + 1) z2 y2 y3 → JR p l e room_1 s m #[.ref b] below meth c 9 D (lA s) Q (100 + 5 * n + 5) (3000 + 30 * n + 30) (lW aC a1 a2 ao aD fo go (zc z2 y2) (zc z2 y3)) 2128 (lL b (a1 0) (a2 40) ao aD (5 * (n : Int))) []) : JR p l e room_1 s m #[.ref b] below meth c 9 D (lA s) Q (100 + 5 * n) (3000 + 30 * n) (lW aC a1 a2 ao aD fo go (zc z y) (zc z y')) 1391 (lL b (a1 0) (a2 40) ao aD (5 * (n : Int))) [] := by
  obtain ⟨hR, hY, hY3, hCW, hMI, h6, h29⟩ := id hI
  have hWF := hCW.1
  refine r_aload_n G 1 dL_law_1391 rfl ?_
  refine r_calli (w0 := [(ao, oL aC fo)]) (w2 := [(aD, oD aC go)] ++ (wd aC a2 shM (zc z y') ++ [])) (ad := a1) (sh := shC) (z := z) (y := y) (q0 := 0) (nb := 0) (As := []) (st := []) (y0 := yX7_plan) (idx := 188) (C := RX7) G KD_plan (fun hd => c_plan l hd hR hY hCW) rfl rfl rfl ⟨rfl, rfl, Nat.le_of_ble_eq_true rfl, Nat.le_of_ble_eq_true rfl⟩ ⟨by show 100 + 5 * n ≤ 3162; omega, by show 3000 + 30 * n ≤ 121779; omega⟩ (Nat.le_of_ble_eq_true rfl) dL_law_1392 (fun rc z2 y2 hp => ?_)
  obtain ⟨ey2, rfl, ez2, hRz2⟩ := hp
  subst y2
  refine r_widen (100 + 5 * n + 5) (3000 + 30 * n + 30) (by omega) (by omega) ?_
  refine r_aload_n G 2 dL_law_1395 rfl ?_
  refine r_ws (lW_M _ _ _ _ _ _ _ _ _) ?_
  refine r_calli (w0 := [(ao, oL aC fo)] ++ (wd aC a1 shC (zc z2 y) ++ [(aD, oD aC go)])) (w2 := []) (ad := a2) (sh := shM) (z := z) (y := y') (q0 := 0) (nb := 40) (As := []) (st := [vi (plL 30 z 0).1]) (y0 := yX8_plan) (idx := 191) (C := RX8) G KM_plan (fun hd => m_plan l hd hR hY3 hWF) rfl rfl rfl ⟨rfl, rfl, Nat.le_of_ble_eq_true rfl, Nat.le_of_ble_eq_true rfl⟩ ⟨by show 100 + 5 * n + 5 ≤ 3162; omega, by show 3000 + 30 * n + 30 ≤ 121779; omega⟩ (Nat.le_of_ble_eq_true rfl) dL_law_1396 (fun b9 z3 y3 hp => ?_)
  obtain ⟨rfl, ez3, hWF3, hRz3, hRy3, hfr⟩ := hp
  subst z3
  subst z2
  refine r_ws (lW_M _ _ _ _ _ _ _ _ _).symm ?_
  refine r_icmp_same (tgt := 2128) G dL_law_1399 (by decide) ?_
  exact kk _ y y3 fo go (LI_u hI hRz2 hY hRy3 (CW_pl hCW 30 0 hWF3) hfr (by rw [(plL_k ⟨by decide, by decide, by decide, by decide, by decide⟩ 30 z 0)]; omega) (plL_k ⟨by decide, by decide, by decide, by decide, by decide⟩ 30 z 0) (plL_k ⟨by decide, by decide, by decide, by decide, by decide⟩ 30 z 0) (plL_k ⟨by decide, by decide, by decide, by decide, by decide⟩ 30 z 0))
set_option maxHeartbeats 4000000 in
set_option maxRecDepth 100000 in
theorem lcase_18 (l : Launch) (hst : l.stackTraces = false) {p : Program} {e : Env} {s : State} {m : MethodId} {below : List Frame} {meth : Method} {c : Code} {D : va_G} {aC : Nat → ClassId} {a1 a2 : Nat → Nat} {ao aD b L : Nat} {xs : Nat → Int32} {Q : State → Prop} (G : lG p s m #[.ref b] meth c cL_law RL 9 D aC (lA s)) (hTh : wTh (lA s) s s.heap) (hNo : wNo s) (hX : va_X b L xs s s.heap) (hbl : b < s.heap.size) (hL : L ≤ 2560) {z y y' : wZ} {n : Nat} (hI : LI n z y y') (hn : 5 * n + 5 ≤ L) {fo : Nat → Int64} {go : Nat → UInt64} (kk : ∀ (z2 y2 y3 : wZ) (fo : Nat → Int64) (go : Nat → UInt64), LI (n + 1) z2 y2 y3 → JR p l e room_1 s m #[.ref b] below meth c 9 D (lA s) Q (100 + 5 * n + 5) (3000 + 30 * n + 30) (lW aC a1 a2 ao aD fo go (zc z2 y2) (zc z2 y3)) 2128 (lL b (a1 0) (a2 40) ao aD (5 * (n : Int))) []) : JR p l e room_1 s m #[.ref b] below meth c 9 D (lA s) Q (100 + 5 * n) (3000 + 30 * n) (lW aC a1 a2 ao aD fo go (zc z y) (zc z y')) 1404 (lL b (a1 0) (a2 40) ao aD (5 * (n : Int))) [] := by
  obtain ⟨hR, hY, hY3, hCW, hMI, h6, h29⟩ := id hI
  have hWF := hCW.1
  obtain ⟨x1, e1, r1⟩ := sx_ex (xs (5 * n + 1))
  refine r_aload_n G 1 dL_law_1404 rfl ?_
  refine r_scr (jn := 1) G hX hbl rfl (by omega) hL e1 0 5 rfl rfl dL_law_1405 dL_law_1406 dL_law_1408 dL_law_1409 dL_law_1410 ?_
  refine r_aload_n G 3 dL_law_1411 rfl ?_
  refine r_ws (lW_L _ _ _ _ _ _ _ _ _) ?_
  refine r_calls (w0 := []) (w2 := [(aD, oD aC go)] ++ (wd aC a2 shM (zc z y') ++ [])) (wx := [(ao, oL aC fo)] ++ (wd aC a1 shC (zc z y) ++ [])) (As := [.ref (a1 0), vi x1, .ref ao]) (st := []) (y0 := yL_kindOf) (idx := 192) G hTh hNo KW_kindOf (fun _ => lw_kindOf l hst hR hY hCW x1 r1) rfl ⟨rfl, rfl, Nat.le_of_ble_eq_true rfl, Nat.le_of_ble_eq_true rfl⟩ ⟨by show 100 + 5 * n + 5 ≤ 3162; omega, by show 3000 + 30 * n + 30 ≤ 121779; omega⟩ (Nat.le_of_ble_eq_true rfl) dL_law_1412 (fun i9 wx9 hp => ?_)
  obtain ⟨ga, z2, y2, rfl, rfl, hk0, hk1⟩ := hp
  refine r_ws (lW_L _ _ _ _ _ _ _ _ _).symm ?_
  refine r_istore (Lv' := [(6, vi (kcK z x1)), (0, .ref b), (1, .ref (a1 0)), (2, .ref (a2 40)), (3, .ref ao), (4, .ref aD), (5, vi (5 * (n : Int)))]) G dL_law_1415 (by decide) rfl ?_
  refine r_aload_n G 3 dL_law_1417 rfl ?_
  refine r_scr (jn := 1) G hX hbl rfl (by omega) hL e1 1 6 rfl rfl dL_law_1418 dL_law_1419 dL_law_1421 dL_law_1422 dL_law_1423 ?_
  refine r_ws (lW_M _ _ _ _ _ _ _ _ _) ?_
  refine r_calli (w0 := [(ao, oL aC ga)] ++ (wd aC a1 shC (zc z2 y2) ++ [(aD, oD aC go)])) (w2 := []) (ad := a2) (sh := shM) (z := z) (y := y') (q0 := 0) (nb := 40) (As := [vi x1]) (st := []) (y0 := yX8_kindOf) (idx := 194) (C := RX8) G KM_kindOf (fun hd => m_kindOf l hd hR hY3 x1 r1) rfl rfl rfl ⟨rfl, rfl, Nat.le_of_ble_eq_true rfl, Nat.le_of_ble_eq_true rfl⟩ ⟨by show 100 + 5 * n + 5 ≤ 3162; omega, by show 3000 + 30 * n + 30 ≤ 121779; omega⟩ (Nat.le_of_ble_eq_true rfl) dL_law_1424 (fun b9 z3 y3 hp => ?_)
  obtain ⟨ez3, e71, hb, hRy3, hfr⟩ := hp
  subst z3
  have hRz3 := hR
  refine r_ws (lW_M _ _ _ _ _ _ _ _ _).symm ?_
  refine r_istore (Lv' := [(7, vi b9), (6, vi (kcK z x1)), (0, .ref b), (1, .ref (a1 0)), (2, .ref (a2 40)), (3, .ref ao), (4, .ref aD), (5, vi (5 * (n : Int)))]) G dL_law_1427 (by decide) rfl ?_
  refine r_aload_n G 4 dL_law_1429 rfl ?_
  refine r_ws (lW_M _ _ _ _ _ _ _ _ _) ?_
  refine r_calli (w0 := [(ao, oL aC ga)] ++ (wd aC a1 shC (zc z2 y2) ++ [(aD, oD aC go)])) (w2 := []) (ad := a2) (sh := shM) (z := z) (y := y3) (q0 := 0) (nb := 40) (As := []) (st := []) (y0 := yX8_thrown) (idx := 130) (C := RX8) G KM_thrown (fun hd => m_thrown l hd hRz3 hRy3) rfl rfl rfl ⟨rfl, rfl, Nat.le_of_ble_eq_true rfl, Nat.le_of_ble_eq_true rfl⟩ ⟨by show 100 + 5 * n + 5 ≤ 3162; omega, by show 3000 + 30 * n + 30 ≤ 121779; omega⟩ (Nat.le_of_ble_eq_true rfl) dL_law_1430 (fun b8 z4 y4 hp => ?_)
  obtain ⟨rfl, ez4, ey4⟩ := hp
  subst z4
  subst y4
  rw [e71]
  refine r_ws (lW_M _ _ _ _ _ _ _ _ _).symm ?_
  refine r_iload G 1 dL_law_1433 rfl ?_
  refine r_icmp_same (tgt := 1440) G dL_law_1435 (by decide) ?_
  refine r_iload G 1 dL_law_1440 rfl ?_
  refine r_ifne_i (tgt := 1457) G dL_law_1442 (by decide) (by unfold kcK; (repeat' split) <;> omega) (fun h0 => ?_) (fun h0 => ?_)
  · obtain ⟨ez2, ey2⟩ := hk1 h0
    subst z2
    subst y2
    refine r_goto (tgt := 2128) G dL_law_1457 (by decide) ?_
    refine r_sub (Lv' := lL b (a1 0) (a2 40) ao aD (5 * (n : Int))) [2, 3, 4, 5, 6, 7] rfl ?_
    exact kk z y y3 ga go (LI_q hI hRy3 hfr)
  · obtain ⟨r_, hga, hre⟩ := hk0 h0
    obtain ⟨rfl, ez2, ey2⟩ := hre
    subst z2
    subst y2
    obtain rfl := hb h0
    refine r_aload_n G 5 dL_law_1445 rfl ?_
    refine r_iconst G dL_law_1446 ?_
    refine r_lald (f := ga) G 0 rfl dL_law_1447 ?_
    rw [hga]
    refine r_iload G 0 dL_law_1448 rfl ?_
    refine r_i2l G dL_law_1450 ?_
    refine r_lcmp_same G dL_law_1451 ?_
    refine r_ifeq_0 (tgt := 1457) G dL_law_1452 (by decide) ?_
    refine r_goto (tgt := 2128) G dL_law_1457 (by decide) ?_
    refine r_sub (Lv' := lL b (a1 0) (a2 40) ao aD (5 * (n : Int))) [2, 3, 4, 5, 6, 7] rfl ?_
    exact kk z y y3 ga go (LI_q hI hRy3 hfr)
set_option maxHeartbeats 4000000 in
set_option maxRecDepth 100000 in
theorem lcase_19 (l : Launch) (hst : l.stackTraces = false) {p : Program} {e : Env} {s : State} {m : MethodId} {below : List Frame} {meth : Method} {c : Code} {D : va_G} {aC : Nat → ClassId} {a1 a2 : Nat → Nat} {ao aD b L : Nat} {xs : Nat → Int32} {Q : State → Prop} (G : lG p s m #[.ref b] meth c cL_law RL 9 D aC (lA s)) (hTh : wTh (lA s) s s.heap) (hNo : wNo s) (hX : va_X b L xs s s.heap) (hbl : b < s.heap.size) (hL : L ≤ 2560) {z y y' : wZ} {n : Nat} (hI : LI n z y y') (hn : 5 * n + 5 ≤ L) {fo : Nat → Int64} {go : Nat → UInt64} (kk : ∀ (z2 y2 y3 : wZ) (fo : Nat → Int64) (go : Nat → UInt64), LI (n + 1) z2 y2 y3 → JR p l e room_1 s m #[.ref b] below meth c 9 D (lA s) Q (100 + 5 * n + 5) (3000 + 30 * n + 30) (lW aC a1 a2 ao aD fo go (zc z2 y2) (zc z2 y3)) 2128 (lL b (a1 0) (a2 40) ao aD (5 * (n : Int))) []) : JR p l e room_1 s m #[.ref b] below meth c 9 D (lA s) Q (100 + 5 * n) (3000 + 30 * n) (lW aC a1 a2 ao aD fo go (zc z y) (zc z y')) 1460 (lL b (a1 0) (a2 40) ao aD (5 * (n : Int))) [] := by
  obtain ⟨hR, hY, hY3, hCW, hMI, h6, h29⟩ := id hI
  have hWF := hCW.1
  obtain ⟨x1, e1, r1⟩ := sx_ex (xs (5 * n + 1))
  refine r_aload_n G 1 dL_law_1460 rfl ?_
  refine r_scr (jn := 1) G hX hbl rfl (by omega) hL e1 0 5 rfl rfl dL_law_1461 dL_law_1462 dL_law_1464 dL_law_1465 dL_law_1466 ?_
  refine r_aload_n G 3 dL_law_1467 rfl ?_
  refine r_ws (lW_L _ _ _ _ _ _ _ _ _) ?_
  refine r_calls (w0 := []) (w2 := [(aD, oD aC go)] ++ (wd aC a2 shM (zc z y') ++ [])) (wx := [(ao, oL aC fo)] ++ (wd aC a1 shC (zc z y) ++ [])) (As := [.ref (a1 0), vi x1, .ref ao]) (st := []) (y0 := yL_numberOf) (idx := 195) G hTh hNo KW_numberOf (fun _ => lw_numberOf l hst hR hY hCW x1 r1) rfl ⟨rfl, rfl, Nat.le_of_ble_eq_true rfl, Nat.le_of_ble_eq_true rfl⟩ ⟨by show 100 + 5 * n + 5 ≤ 3162; omega, by show 3000 + 30 * n + 30 ≤ 121779; omega⟩ (Nat.le_of_ble_eq_true rfl) dL_law_1468 (fun i9 wx9 hp => ?_)
  obtain ⟨ga, z2, y2, rfl, rfl, hk0, hk1⟩ := hp
  refine r_ws (lW_L _ _ _ _ _ _ _ _ _).symm ?_
  refine r_istore (Lv' := [(6, vi (kcK z x1)), (0, .ref b), (1, .ref (a1 0)), (2, .ref (a2 40)), (3, .ref ao), (4, .ref aD), (5, vi (5 * (n : Int)))]) G dL_law_1471 (by decide) rfl ?_
  refine r_aload_n G 3 dL_law_1473 rfl ?_
  refine r_scr (jn := 1) G hX hbl rfl (by omega) hL e1 1 6 rfl rfl dL_law_1474 dL_law_1475 dL_law_1477 dL_law_1478 dL_law_1479 ?_
  refine r_ws (lW_M _ _ _ _ _ _ _ _ _) ?_
  refine r_calli (w0 := [(ao, oL aC ga)] ++ (wd aC a1 shC (zc z2 y2) ++ [(aD, oD aC go)])) (w2 := []) (ad := a2) (sh := shM) (z := z) (y := y') (q0 := 0) (nb := 40) (As := [vi x1]) (st := []) (y0 := yX8_numberOf) (idx := 197) (C := RX8) G KM_numberOf (fun hd => m_numberOf l hd hR hY3 x1 r1) rfl rfl rfl ⟨rfl, rfl, Nat.le_of_ble_eq_true rfl, Nat.le_of_ble_eq_true rfl⟩ ⟨by show 100 + 5 * n + 5 ≤ 3162; omega, by show 3000 + 30 * n + 30 ≤ 121779; omega⟩ (Nat.le_of_ble_eq_true rfl) dL_law_1480 (fun b9 z3 y3 hp => ?_)
  obtain ⟨ez3, e71, hb, hRy3, hfr⟩ := hp
  subst z3
  have hRz3 := hR
  refine r_ws (lW_M _ _ _ _ _ _ _ _ _).symm ?_
  refine r_istore (Lv' := [(7, vi b9), (6, vi (kcK z x1)), (0, .ref b), (1, .ref (a1 0)), (2, .ref (a2 40)), (3, .ref ao), (4, .ref aD), (5, vi (5 * (n : Int)))]) G dL_law_1483 (by decide) rfl ?_
  refine r_aload_n G 4 dL_law_1485 rfl ?_
  refine r_ws (lW_M _ _ _ _ _ _ _ _ _) ?_
  refine r_calli (w0 := [(ao, oL aC ga)] ++ (wd aC a1 shC (zc z2 y2) ++ [(aD, oD aC go)])) (w2 := []) (ad := a2) (sh := shM) (z := z) (y := y3) (q0 := 0) (nb := 40) (As := []) (st := []) (y0 := yX8_thrown) (idx := 130) (C := RX8) G KM_thrown (fun hd => m_thrown l hd hRz3 hRy3) rfl rfl rfl ⟨rfl, rfl, Nat.le_of_ble_eq_true rfl, Nat.le_of_ble_eq_true rfl⟩ ⟨by show 100 + 5 * n + 5 ≤ 3162; omega, by show 3000 + 30 * n + 30 ≤ 121779; omega⟩ (Nat.le_of_ble_eq_true rfl) dL_law_1486 (fun b8 z4 y4 hp => ?_)
  obtain ⟨rfl, ez4, ey4⟩ := hp
  subst z4
  subst y4
  rw [e71]
  refine r_ws (lW_M _ _ _ _ _ _ _ _ _).symm ?_
  refine r_iload G 1 dL_law_1489 rfl ?_
  refine r_icmp_same (tgt := 1496) G dL_law_1491 (by decide) ?_
  refine r_iload G 1 dL_law_1496 rfl ?_
  refine r_ifne_i (tgt := 1513) G dL_law_1498 (by decide) (by unfold kcK; (repeat' split) <;> omega) (fun h0 => ?_) (fun h0 => ?_)
  · obtain ⟨ez2, ey2⟩ := hk1 h0
    subst z2
    subst y2
    refine r_goto (tgt := 2128) G dL_law_1513 (by decide) ?_
    refine r_sub (Lv' := lL b (a1 0) (a2 40) ao aD (5 * (n : Int))) [2, 3, 4, 5, 6, 7] rfl ?_
    exact kk z y y3 ga go (LI_q hI hRy3 hfr)
  · obtain ⟨r_, hga, hre⟩ := hk0 h0
    obtain ⟨rfl, ez2, ey2⟩ := hre
    subst z2
    subst y2
    obtain rfl := hb h0
    refine r_aload_n G 5 dL_law_1501 rfl ?_
    refine r_iconst G dL_law_1502 ?_
    refine r_lald (f := ga) G 0 rfl dL_law_1503 ?_
    rw [hga]
    refine r_iload G 0 dL_law_1504 rfl ?_
    refine r_i2l G dL_law_1506 ?_
    refine r_lcmp_same G dL_law_1507 ?_
    refine r_ifeq_0 (tgt := 1513) G dL_law_1508 (by decide) ?_
    refine r_goto (tgt := 2128) G dL_law_1513 (by decide) ?_
    refine r_sub (Lv' := lL b (a1 0) (a2 40) ao aD (5 * (n : Int))) [2, 3, 4, 5, 6, 7] rfl ?_
    exact kk z y y3 ga go (LI_q hI hRy3 hfr)
set_option maxHeartbeats 4000000 in
set_option maxRecDepth 100000 in
theorem lcase_20 (l : Launch) (hst : l.stackTraces = false) {p : Program} {e : Env} {s : State} {m : MethodId} {below : List Frame} {meth : Method} {c : Code} {D : va_G} {aC : Nat → ClassId} {a1 a2 : Nat → Nat} {ao aD b L : Nat} {xs : Nat → Int32} {Q : State → Prop} (G : lG p s m #[.ref b] meth c cL_law RL 9 D aC (lA s)) (hTh : wTh (lA s) s s.heap) (hNo : wNo s) (hX : va_X b L xs s s.heap) (hbl : b < s.heap.size) (hL : L ≤ 2560) {z y y' : wZ} {n : Nat} (hI : LI n z y y') (hn : 5 * n + 5 ≤ L) {fo : Nat → Int64} {go : Nat → UInt64} (kk : ∀ (z2 y2 y3 : wZ) (fo : Nat → Int64) (go : Nat → UInt64), LI (n + 1) z2 y2 y3 → JR p l e room_1 s m #[.ref b] below meth c 9 D (lA s) Q (100 + 5 * n + 5) (3000 + 30 * n + 30) (lW aC a1 a2 ao aD fo go (zc z2 y2) (zc z2 y3)) 2128 (lL b (a1 0) (a2 40) ao aD (5 * (n : Int))) []) : JR p l e room_1 s m #[.ref b] below meth c 9 D (lA s) Q (100 + 5 * n) (3000 + 30 * n) (lW aC a1 a2 ao aD fo go (zc z y) (zc z y')) 1516 (lL b (a1 0) (a2 40) ao aD (5 * (n : Int))) [] := by
  obtain ⟨hR, hY, hY3, hCW, hMI, h6, h29⟩ := id hI
  have hWF := hCW.1
  obtain ⟨x1, e1, r1⟩ := sx_ex (xs (5 * n + 1))
  refine r_aload_n G 1 dL_law_1516 rfl ?_
  refine r_scr (jn := 1) G hX hbl rfl (by omega) hL e1 0 5 rfl rfl dL_law_1517 dL_law_1518 dL_law_1520 dL_law_1521 dL_law_1522 ?_
  refine r_aload_n G 3 dL_law_1523 rfl ?_
  refine r_ws (lW_L _ _ _ _ _ _ _ _ _) ?_
  refine r_calls (w0 := []) (w2 := [(aD, oD aC go)] ++ (wd aC a2 shM (zc z y') ++ [])) (wx := [(ao, oL aC fo)] ++ (wd aC a1 shC (zc z y) ++ [])) (As := [.ref (a1 0), vi x1, .ref ao]) (st := []) (y0 := yL_doneBy) (idx := 198) G hTh hNo KW_doneBy (fun _ => lw_doneBy l hst hR hY hCW x1 r1) rfl ⟨rfl, rfl, Nat.le_of_ble_eq_true rfl, Nat.le_of_ble_eq_true rfl⟩ ⟨by show 100 + 5 * n + 5 ≤ 3162; omega, by show 3000 + 30 * n + 30 ≤ 121779; omega⟩ (Nat.le_of_ble_eq_true rfl) dL_law_1524 (fun i9 wx9 hp => ?_)
  obtain ⟨ga, z2, y2, rfl, rfl, hk0, hk1⟩ := hp
  refine r_ws (lW_L _ _ _ _ _ _ _ _ _).symm ?_
  refine r_istore (Lv' := [(6, vi (kcDB z x1)), (0, .ref b), (1, .ref (a1 0)), (2, .ref (a2 40)), (3, .ref ao), (4, .ref aD), (5, vi (5 * (n : Int)))]) G dL_law_1527 (by decide) rfl ?_
  refine r_aload_n G 3 dL_law_1529 rfl ?_
  refine r_scr (jn := 1) G hX hbl rfl (by omega) hL e1 1 6 rfl rfl dL_law_1530 dL_law_1531 dL_law_1533 dL_law_1534 dL_law_1535 ?_
  refine r_ws (lW_M _ _ _ _ _ _ _ _ _) ?_
  refine r_calli (w0 := [(ao, oL aC ga)] ++ (wd aC a1 shC (zc z2 y2) ++ [(aD, oD aC go)])) (w2 := []) (ad := a2) (sh := shM) (z := z) (y := y') (q0 := 0) (nb := 40) (As := [vi x1]) (st := []) (y0 := yX8_doneBy) (idx := 200) (C := RX8) G KM_doneBy (fun hd => m_doneBy l hd hR hY3 x1 r1) rfl rfl rfl ⟨rfl, rfl, Nat.le_of_ble_eq_true rfl, Nat.le_of_ble_eq_true rfl⟩ ⟨by show 100 + 5 * n + 5 ≤ 3162; omega, by show 3000 + 30 * n + 30 ≤ 121779; omega⟩ (Nat.le_of_ble_eq_true rfl) dL_law_1536 (fun b9 z3 y3 hp => ?_)
  obtain ⟨ez3, e71, hb, hRy3, hfr⟩ := hp
  subst z3
  have hRz3 := hR
  refine r_ws (lW_M _ _ _ _ _ _ _ _ _).symm ?_
  refine r_istore (Lv' := [(7, vi b9), (6, vi (kcDB z x1)), (0, .ref b), (1, .ref (a1 0)), (2, .ref (a2 40)), (3, .ref ao), (4, .ref aD), (5, vi (5 * (n : Int)))]) G dL_law_1539 (by decide) rfl ?_
  refine r_aload_n G 4 dL_law_1541 rfl ?_
  refine r_ws (lW_M _ _ _ _ _ _ _ _ _) ?_
  refine r_calli (w0 := [(ao, oL aC ga)] ++ (wd aC a1 shC (zc z2 y2) ++ [(aD, oD aC go)])) (w2 := []) (ad := a2) (sh := shM) (z := z) (y := y3) (q0 := 0) (nb := 40) (As := []) (st := []) (y0 := yX8_thrown) (idx := 130) (C := RX8) G KM_thrown (fun hd => m_thrown l hd hRz3 hRy3) rfl rfl rfl ⟨rfl, rfl, Nat.le_of_ble_eq_true rfl, Nat.le_of_ble_eq_true rfl⟩ ⟨by show 100 + 5 * n + 5 ≤ 3162; omega, by show 3000 + 30 * n + 30 ≤ 121779; omega⟩ (Nat.le_of_ble_eq_true rfl) dL_law_1542 (fun b8 z4 y4 hp => ?_)
  obtain ⟨rfl, ez4, ey4⟩ := hp
  subst z4
  subst y4
  rw [e71]
  refine r_ws (lW_M _ _ _ _ _ _ _ _ _).symm ?_
  refine r_iload G 1 dL_law_1545 rfl ?_
  refine r_icmp_same (tgt := 1552) G dL_law_1547 (by decide) ?_
  refine r_iload G 1 dL_law_1552 rfl ?_
  refine r_ifne_i (tgt := 1569) G dL_law_1554 (by decide) (by unfold kcDB; (repeat' split) <;> omega) (fun h0 => ?_) (fun h0 => ?_)
  · obtain ⟨ez2, ey2⟩ := hk1 h0
    subst z2
    subst y2
    refine r_goto (tgt := 2128) G dL_law_1569 (by decide) ?_
    refine r_sub (Lv' := lL b (a1 0) (a2 40) ao aD (5 * (n : Int))) [2, 3, 4, 5, 6, 7] rfl ?_
    exact kk z y y3 ga go (LI_q hI hRy3 hfr)
  · obtain ⟨r_, hga, hre⟩ := hk0 h0
    obtain ⟨rfl, ez2, ey2⟩ := hre
    subst z2
    subst y2
    obtain rfl := hb h0
    refine r_aload_n G 5 dL_law_1557 rfl ?_
    refine r_iconst G dL_law_1558 ?_
    refine r_lald (f := ga) G 0 rfl dL_law_1559 ?_
    rw [hga]
    refine r_iload G 0 dL_law_1560 rfl ?_
    refine r_i2l G dL_law_1562 ?_
    refine r_lcmp_same G dL_law_1563 ?_
    refine r_ifeq_0 (tgt := 1569) G dL_law_1564 (by decide) ?_
    refine r_goto (tgt := 2128) G dL_law_1569 (by decide) ?_
    refine r_sub (Lv' := lL b (a1 0) (a2 40) ao aD (5 * (n : Int))) [2, 3, 4, 5, 6, 7] rfl ?_
    exact kk z y y3 ga go (LI_q hI hRy3 hfr)
set_option maxHeartbeats 4000000 in
set_option maxRecDepth 100000 in
theorem lcase_21 (l : Launch) (hst : l.stackTraces = false) {p : Program} {e : Env} {s : State} {m : MethodId} {below : List Frame} {meth : Method} {c : Code} {D : va_G} {aC : Nat → ClassId} {a1 a2 : Nat → Nat} {ao aD b L : Nat} {xs : Nat → Int32} {Q : State → Prop} (G : lG p s m #[.ref b] meth c cL_law RL 9 D aC (lA s)) (hTh : wTh (lA s) s s.heap) (hNo : wNo s) (hX : va_X b L xs s s.heap) (hbl : b < s.heap.size) (hL : L ≤ 2560) {z y y' : wZ} {n : Nat} (hI : LI n z y y') (hn : 5 * n + 5 ≤ L) {fo : Nat → Int64} {go : Nat → UInt64} (kk : ∀ (z2 y2 y3 : wZ) (fo : Nat → Int64) (go : Nat → UInt64), LI (n + 1) z2 y2 y3 → JR p l e room_1 s m #[.ref b] below meth c 9 D (lA s) Q (100 + 5 * n + 5) (3000 + 30 * n + 30) (lW aC a1 a2 ao aD fo go (zc z2 y2) (zc z2 y3)) 2128 (lL b (a1 0) (a2 40) ao aD (5 * (n : Int))) []) : JR p l e room_1 s m #[.ref b] below meth c 9 D (lA s) Q (100 + 5 * n) (3000 + 30 * n) (lW aC a1 a2 ao aD fo go (zc z y) (zc z y')) 1572 (lL b (a1 0) (a2 40) ao aD (5 * (n : Int))) [] := by
  obtain ⟨hR, hY, hY3, hCW, hMI, h6, h29⟩ := id hI
  have hWF := hCW.1
  refine r_aload_n G 1 dL_law_1572 rfl ?_
  refine r_calli (w0 := [(ao, oL aC fo)]) (w2 := [(aD, oD aC go)] ++ (wd aC a2 shM (zc z y') ++ [])) (ad := a1) (sh := shC) (z := z) (y := y) (q0 := 0) (nb := 0) (As := []) (st := []) (y0 := yX7_openTasks) (idx := 201) (C := RX7) G KD_openTasks (fun hd => c_openTasks l hd hR hY) rfl rfl rfl ⟨rfl, rfl, Nat.le_of_ble_eq_true rfl, Nat.le_of_ble_eq_true rfl⟩ ⟨by show 100 + 5 * n ≤ 3162; omega, by show 3000 + 30 * n ≤ 121779; omega⟩ (Nat.le_of_ble_eq_true rfl) dL_law_1573 (fun rc z2 y2 hp => ?_)
  obtain ⟨rfl, ez2, ey2⟩ := hp
  subst z2
  subst y2
  refine r_widen (100 + 5 * n + 5) (3000 + 30 * n + 30) (by omega) (by omega) ?_
  refine r_aload_n G 2 dL_law_1576 rfl ?_
  refine r_ws (lW_M _ _ _ _ _ _ _ _ _) ?_
  refine r_calli (w0 := [(ao, oL aC fo)] ++ (wd aC a1 shC (zc z y) ++ [(aD, oD aC go)])) (w2 := []) (ad := a2) (sh := shM) (z := z) (y := y') (q0 := 0) (nb := 40) (As := []) (st := [vi (opL z (z 3 0).toNat 0 0)]) (y0 := yX8_openTasks) (idx := 204) (C := RX8) G KM_openTasks (fun hd => m_openTasks l hd hR hY3) rfl rfl rfl ⟨rfl, rfl, Nat.le_of_ble_eq_true rfl, Nat.le_of_ble_eq_true rfl⟩ ⟨by show 100 + 5 * n + 5 ≤ 3162; omega, by show 3000 + 30 * n + 30 ≤ 121779; omega⟩ (Nat.le_of_ble_eq_true rfl) dL_law_1577 (fun b9 z3 y3 hp => ?_)
  obtain ⟨ez3, rfl, hRy3, hfr⟩ := hp
  subst z3
  refine r_ws (lW_M _ _ _ _ _ _ _ _ _).symm ?_
  refine r_icmp_same (tgt := 2128) G dL_law_1580 (by decide) ?_
  exact kk z y y3 fo go (LI_q hI hRy3 (fun k' _ h => hfr k' h))
set_option maxHeartbeats 4000000 in
set_option maxRecDepth 100000 in
theorem lcase_22 (l : Launch) (hst : l.stackTraces = false) {p : Program} {e : Env} {s : State} {m : MethodId} {below : List Frame} {meth : Method} {c : Code} {D : va_G} {aC : Nat → ClassId} {a1 a2 : Nat → Nat} {ao aD b L : Nat} {xs : Nat → Int32} {Q : State → Prop} (G : lG p s m #[.ref b] meth c cL_law RL 9 D aC (lA s)) (hTh : wTh (lA s) s s.heap) (hNo : wNo s) (hX : va_X b L xs s s.heap) (hbl : b < s.heap.size) (hL : L ≤ 2560) {z y y' : wZ} {n : Nat} (hI : LI n z y y') (hn : 5 * n + 5 ≤ L) {fo : Nat → Int64} {go : Nat → UInt64} (kk : ∀ (z2 y2 y3 : wZ) (fo : Nat → Int64) (go : Nat → UInt64), LI (n + 1) z2 y2 y3 → JR p l e room_1 s m #[.ref b] below meth c 9 D (lA s) Q (100 + 5 * n + 5) (3000 + 30 * n + 30) (lW aC a1 a2 ao aD fo go (zc z2 y2) (zc z2 y3)) 2128 (lL b (a1 0) (a2 40) ao aD (5 * (n : Int))) []) : JR p l e room_1 s m #[.ref b] below meth c 9 D (lA s) Q (100 + 5 * n) (3000 + 30 * n) (lW aC a1 a2 ao aD fo go (zc z y) (zc z y')) 1585 (lL b (a1 0) (a2 40) ao aD (5 * (n : Int))) [] := by
  obtain ⟨hR, hY, hY3, hCW, hMI, h6, h29⟩ := id hI
  have hWF := hCW.1
  obtain ⟨x1, e1, r1⟩ := sx_ex (xs (5 * n + 1))
  obtain ⟨x2, e2, r2⟩ := sx_ex (xs (5 * n + 2))
  refine r_aload_n G 1 dL_law_1585 rfl ?_
  refine r_scr (jn := 1) G hX hbl rfl (by omega) hL e1 0 5 rfl rfl dL_law_1586 dL_law_1587 dL_law_1589 dL_law_1590 dL_law_1591 ?_
  refine r_scr (jn := 2) G hX hbl rfl (by omega) hL e2 0 5 rfl rfl dL_law_1592 dL_law_1593 dL_law_1595 dL_law_1596 dL_law_1597 ?_
  refine r_aload_n G 3 dL_law_1598 rfl ?_
  refine r_ws (lW_L _ _ _ _ _ _ _ _ _) ?_
  refine r_calls (w0 := []) (w2 := [(aD, oD aC go)] ++ (wd aC a2 shM (zc z y') ++ [])) (wx := [(ao, oL aC fo)] ++ (wd aC a1 shC (zc z y) ++ [])) (As := [.ref (a1 0), vi x1, vi x2, .ref ao]) (st := []) (y0 := yL_addRanger) (idx := 205) G hTh hNo KW_addRanger (fun _ => lw_addRanger l hst hR hY hCW x1 x2 r1 r2) rfl ⟨rfl, rfl, Nat.le_of_ble_eq_true rfl, Nat.le_of_ble_eq_true rfl⟩ ⟨by show 100 + 5 * n + 5 ≤ 3162; omega, by show 3000 + 30 * n + 30 ≤ 121779; omega⟩ (Nat.le_of_ble_eq_true rfl) dL_law_1599 (fun i9 wx9 hp => ?_)
  obtain ⟨ga, z2, y2, rfl, rfl, hk0, hk1⟩ := hp
  refine r_ws (lW_L _ _ _ _ _ _ _ _ _).symm ?_
  refine r_istore (Lv' := [(6, vi (kcAR z x1 x2)), (0, .ref b), (1, .ref (a1 0)), (2, .ref (a2 40)), (3, .ref ao), (4, .ref aD), (5, vi (5 * (n : Int)))]) G dL_law_1602 (by decide) rfl ?_
  refine r_aload_n G 3 dL_law_1604 rfl ?_
  refine r_scr (jn := 1) G hX hbl rfl (by omega) hL e1 1 6 rfl rfl dL_law_1605 dL_law_1606 dL_law_1608 dL_law_1609 dL_law_1610 ?_
  refine r_scr (jn := 2) G hX hbl rfl (by omega) hL e2 1 6 rfl rfl dL_law_1611 dL_law_1612 dL_law_1614 dL_law_1615 dL_law_1616 ?_
  refine r_ws (lW_M _ _ _ _ _ _ _ _ _) ?_
  refine r_calli (w0 := [(ao, oL aC ga)] ++ (wd aC a1 shC (zc z2 y2) ++ [(aD, oD aC go)])) (w2 := []) (ad := a2) (sh := shM) (z := z) (y := y') (q0 := 0) (nb := 40) (As := [vi x1, vi x2]) (st := []) (y0 := yX8_addRanger) (idx := 207) (C := RX8) G KM_addRanger (fun hd => m_addRanger l hd hR hY3 x1 x2 r1 r2) rfl rfl rfl ⟨rfl, rfl, Nat.le_of_ble_eq_true rfl, Nat.le_of_ble_eq_true rfl⟩ ⟨by show 100 + 5 * n + 5 ≤ 3162; omega, by show 3000 + 30 * n + 30 ≤ 121779; omega⟩ (Nat.le_of_ble_eq_true rfl) dL_law_1617 (fun b9 z3 y3 hp => ?_)
  obtain ⟨e71, hb, hb1, hRz3, hRy3, hfr⟩ := hp
  refine r_ws (lW_M _ _ _ _ _ _ _ _ _).symm ?_
  refine r_istore (Lv' := [(7, vi b9), (6, vi (kcAR z x1 x2)), (0, .ref b), (1, .ref (a1 0)), (2, .ref (a2 40)), (3, .ref ao), (4, .ref aD), (5, vi (5 * (n : Int)))]) G dL_law_1620 (by decide) rfl ?_
  refine r_aload_n G 4 dL_law_1622 rfl ?_
  refine r_ws (lW_M _ _ _ _ _ _ _ _ _) ?_
  refine r_calli (w0 := [(ao, oL aC ga)] ++ (wd aC a1 shC (zc z2 y2) ++ [(aD, oD aC go)])) (w2 := []) (ad := a2) (sh := shM) (z := z3) (y := y3) (q0 := 0) (nb := 40) (As := []) (st := []) (y0 := yX8_thrown) (idx := 130) (C := RX8) G KM_thrown (fun hd => m_thrown l hd hRz3 hRy3) rfl rfl rfl ⟨rfl, rfl, Nat.le_of_ble_eq_true rfl, Nat.le_of_ble_eq_true rfl⟩ ⟨by show 100 + 5 * n + 5 ≤ 3162; omega, by show 3000 + 30 * n + 30 ≤ 121779; omega⟩ (Nat.le_of_ble_eq_true rfl) dL_law_1623 (fun b8 z4 y4 hp => ?_)
  obtain ⟨rfl, ez4, ey4⟩ := hp
  subst z4
  subst y4
  rw [e71]
  refine r_ws (lW_M _ _ _ _ _ _ _ _ _).symm ?_
  refine r_iload G 1 dL_law_1626 rfl ?_
  refine r_icmp_same (tgt := 1633) G dL_law_1628 (by decide) ?_
  refine r_iload G 1 dL_law_1633 rfl ?_
  refine r_ifne_i (tgt := 1650) G dL_law_1635 (by decide) (by unfold kcAR; (repeat' split) <;> omega) (fun h0 => ?_) (fun h0 => ?_)
  · obtain ⟨ez2, ey2⟩ := hk1 h0
    subst z2
    subst y2
    have ez3 := hb1 h0
    subst z3
    refine r_goto (tgt := 2128) G dL_law_1650 (by decide) ?_
    refine r_sub (Lv' := lL b (a1 0) (a2 40) ao aD (5 * (n : Int))) [2, 3, 4, 5, 6, 7] rfl ?_
    exact kk z y y3 ga go (LI_q hI hRy3 hfr)
  · obtain ⟨r_, hga, hre⟩ := hk0 h0
    obtain ⟨rfl, ez2, hRz2, hRy2, hCW2⟩ := hre
    subst z2
    obtain ⟨rfl, ez3⟩ := hb h0
    subst z3
    refine r_aload_n G 5 dL_law_1638 rfl ?_
    refine r_iconst G dL_law_1639 ?_
    refine r_lald (f := ga) G 0 rfl dL_law_1640 ?_
    rw [hga]
    refine r_iload G 0 dL_law_1641 rfl ?_
    refine r_i2l G dL_law_1643 ?_
    refine r_lcmp_same G dL_law_1644 ?_
    refine r_ifeq_0 (tgt := 1650) G dL_law_1645 (by decide) ?_
    refine r_goto (tgt := 2128) G dL_law_1650 (by decide) ?_
    refine r_sub (Lv' := lL b (a1 0) (a2 40) ao aD (5 * (n : Int))) [2, 3, 4, 5, 6, 7] rfl ?_
    exact kk _ y2 y3 ga go (LI_u hI hRz2 hRy2 hRy3 hCW2 hfr (by rw [LenlF_k _ _ _ ⟨by decide, by decide, by decide⟩]; omega) (LenlF_k _ _ _ ⟨by decide, by decide, by decide⟩) (LenlF_k _ _ _ ⟨by decide, by decide, by decide⟩) (LenlF_k _ _ _ ⟨by decide, by decide, by decide⟩))
set_option maxHeartbeats 4000000 in
set_option maxRecDepth 100000 in
theorem lcase_23 (l : Launch) (hst : l.stackTraces = false) {p : Program} {e : Env} {s : State} {m : MethodId} {below : List Frame} {meth : Method} {c : Code} {D : va_G} {aC : Nat → ClassId} {a1 a2 : Nat → Nat} {ao aD b L : Nat} {xs : Nat → Int32} {Q : State → Prop} (G : lG p s m #[.ref b] meth c cL_law RL 9 D aC (lA s)) (hTh : wTh (lA s) s s.heap) (hNo : wNo s) (hX : va_X b L xs s s.heap) (hbl : b < s.heap.size) (hL : L ≤ 2560) {z y y' : wZ} {n : Nat} (hI : LI n z y y') (hn : 5 * n + 5 ≤ L) {fo : Nat → Int64} {go : Nat → UInt64} (kk : ∀ (z2 y2 y3 : wZ) (fo : Nat → Int64) (go : Nat → UInt64), LI (n + 1) z2 y2 y3 → JR p l e room_1 s m #[.ref b] below meth c 9 D (lA s) Q (100 + 5 * n + 5) (3000 + 30 * n + 30) (lW aC a1 a2 ao aD fo go (zc z2 y2) (zc z2 y3)) 2128 (lL b (a1 0) (a2 40) ao aD (5 * (n : Int))) []) : JR p l e room_1 s m #[.ref b] below meth c 9 D (lA s) Q (100 + 5 * n) (3000 + 30 * n) (lW aC a1 a2 ao aD fo go (zc z y) (zc z y')) 1653 (lL b (a1 0) (a2 40) ao aD (5 * (n : Int))) [] := by
  obtain ⟨hR, hY, hY3, hCW, hMI, h6, h29⟩ := id hI
  have hWF := hCW.1
  obtain ⟨x1, e1, r1⟩ := sx_ex (xs (5 * n + 1))
  refine r_aload_n G 1 dL_law_1653 rfl ?_
  refine r_scr (jn := 1) G hX hbl rfl (by omega) hL e1 0 5 rfl rfl dL_law_1654 dL_law_1655 dL_law_1657 dL_law_1658 dL_law_1659 ?_
  refine r_aload_n G 3 dL_law_1660 rfl ?_
  refine r_ws (lW_L _ _ _ _ _ _ _ _ _) ?_
  refine r_calls (w0 := []) (w2 := [(aD, oD aC go)] ++ (wd aC a2 shM (zc z y') ++ [])) (wx := [(ao, oL aC fo)] ++ (wd aC a1 shC (zc z y) ++ [])) (As := [.ref (a1 0), vi x1, .ref ao]) (st := []) (y0 := yL_forkOf) (idx := 208) G hTh hNo KW_forkOf (fun _ => lw_forkOf l hst hR hY hCW x1 r1) rfl ⟨rfl, rfl, Nat.le_of_ble_eq_true rfl, Nat.le_of_ble_eq_true rfl⟩ ⟨by show 100 + 5 * n + 5 ≤ 3162; omega, by show 3000 + 30 * n + 30 ≤ 121779; omega⟩ (Nat.le_of_ble_eq_true rfl) dL_law_1661 (fun i9 wx9 hp => ?_)
  obtain ⟨ga, z2, y2, rfl, rfl, hk0, hk1⟩ := hp
  refine r_ws (lW_L _ _ _ _ _ _ _ _ _).symm ?_
  refine r_istore (Lv' := [(6, vi (kcR z x1)), (0, .ref b), (1, .ref (a1 0)), (2, .ref (a2 40)), (3, .ref ao), (4, .ref aD), (5, vi (5 * (n : Int)))]) G dL_law_1664 (by decide) rfl ?_
  refine r_aload_n G 3 dL_law_1666 rfl ?_
  refine r_scr (jn := 1) G hX hbl rfl (by omega) hL e1 1 6 rfl rfl dL_law_1667 dL_law_1668 dL_law_1670 dL_law_1671 dL_law_1672 ?_
  refine r_ws (lW_M _ _ _ _ _ _ _ _ _) ?_
  refine r_calli (w0 := [(ao, oL aC ga)] ++ (wd aC a1 shC (zc z2 y2) ++ [(aD, oD aC go)])) (w2 := []) (ad := a2) (sh := shM) (z := z) (y := y') (q0 := 0) (nb := 40) (As := [vi x1]) (st := []) (y0 := yX8_forkOf) (idx := 210) (C := RX8) G KM_forkOf (fun hd => m_forkOf l hd hR hY3 x1 r1) rfl rfl rfl ⟨rfl, rfl, Nat.le_of_ble_eq_true rfl, Nat.le_of_ble_eq_true rfl⟩ ⟨by show 100 + 5 * n + 5 ≤ 3162; omega, by show 3000 + 30 * n + 30 ≤ 121779; omega⟩ (Nat.le_of_ble_eq_true rfl) dL_law_1673 (fun b9 z3 y3 hp => ?_)
  obtain ⟨ez3, e71, hb, hRy3, hfr⟩ := hp
  subst z3
  have hRz3 := hR
  refine r_ws (lW_M _ _ _ _ _ _ _ _ _).symm ?_
  refine r_istore (Lv' := [(7, vi b9), (6, vi (kcR z x1)), (0, .ref b), (1, .ref (a1 0)), (2, .ref (a2 40)), (3, .ref ao), (4, .ref aD), (5, vi (5 * (n : Int)))]) G dL_law_1676 (by decide) rfl ?_
  refine r_aload_n G 4 dL_law_1678 rfl ?_
  refine r_ws (lW_M _ _ _ _ _ _ _ _ _) ?_
  refine r_calli (w0 := [(ao, oL aC ga)] ++ (wd aC a1 shC (zc z2 y2) ++ [(aD, oD aC go)])) (w2 := []) (ad := a2) (sh := shM) (z := z) (y := y3) (q0 := 0) (nb := 40) (As := []) (st := []) (y0 := yX8_thrown) (idx := 130) (C := RX8) G KM_thrown (fun hd => m_thrown l hd hRz3 hRy3) rfl rfl rfl ⟨rfl, rfl, Nat.le_of_ble_eq_true rfl, Nat.le_of_ble_eq_true rfl⟩ ⟨by show 100 + 5 * n + 5 ≤ 3162; omega, by show 3000 + 30 * n + 30 ≤ 121779; omega⟩ (Nat.le_of_ble_eq_true rfl) dL_law_1679 (fun b8 z4 y4 hp => ?_)
  obtain ⟨rfl, ez4, ey4⟩ := hp
  subst z4
  subst y4
  rw [e71]
  refine r_ws (lW_M _ _ _ _ _ _ _ _ _).symm ?_
  refine r_iload G 1 dL_law_1682 rfl ?_
  refine r_icmp_same (tgt := 1689) G dL_law_1684 (by decide) ?_
  refine r_iload G 1 dL_law_1689 rfl ?_
  refine r_ifne_i (tgt := 1706) G dL_law_1691 (by decide) (by unfold kcR; (repeat' split) <;> omega) (fun h0 => ?_) (fun h0 => ?_)
  · obtain ⟨ez2, ey2⟩ := hk1 h0
    subst z2
    subst y2
    refine r_goto (tgt := 2128) G dL_law_1706 (by decide) ?_
    refine r_sub (Lv' := lL b (a1 0) (a2 40) ao aD (5 * (n : Int))) [2, 3, 4, 5, 6, 7] rfl ?_
    exact kk z y y3 ga go (LI_q hI hRy3 hfr)
  · obtain ⟨r_, hga, hre⟩ := hk0 h0
    obtain ⟨rfl, ez2, ey2⟩ := hre
    subst z2
    subst y2
    obtain rfl := hb h0
    refine r_aload_n G 5 dL_law_1694 rfl ?_
    refine r_iconst G dL_law_1695 ?_
    refine r_lald (f := ga) G 0 rfl dL_law_1696 ?_
    rw [hga]
    refine r_iload G 0 dL_law_1697 rfl ?_
    refine r_i2l G dL_law_1699 ?_
    refine r_lcmp_same G dL_law_1700 ?_
    refine r_ifeq_0 (tgt := 1706) G dL_law_1701 (by decide) ?_
    refine r_goto (tgt := 2128) G dL_law_1706 (by decide) ?_
    refine r_sub (Lv' := lL b (a1 0) (a2 40) ao aD (5 * (n : Int))) [2, 3, 4, 5, 6, 7] rfl ?_
    exact kk z y y3 ga go (LI_q hI hRy3 hfr)
