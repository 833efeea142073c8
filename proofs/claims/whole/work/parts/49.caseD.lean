/-! THE LAW, cases 24 to 31 -/
set_option maxHeartbeats 4000000 in
set_option maxRecDepth 100000 in
theorem lcase_24 (l : Launch) (hst : l.stackTraces = false) {p : Program} {e : Env} {s : State} {m : MethodId} {below : List Frame} {meth : Method} {c : Code} {D : va_G} {aC : Nat → ClassId} {a1 a2 : Nat → Nat} {ao aD b L : Nat} {xs : Nat → Int32} {Q : State → Prop} (G : lG p s m #[.ref b] meth c cL_law RL 9 D aC (lA s)) (hTh : wTh (lA s) s s.heap) (hNo : wNo s) (hX : va_X b L xs s s.heap) (hbl : b < s.heap.size) (hL : L ≤ 2560) {z y y' : wZ} {n : Nat} (hI : LI n z y y') (hn : 5 * n + 5 ≤ L) {fo : Nat → Int64} {go : Nat → UInt64} (kk : ∀ (z2 y2 y3 : wZ) (fo : Nat → Int64) (go : Nat → UInt64), LI (n + 1) z2 y2 y3 → JR p l e room_1 s m #[.ref b] below meth c 9 D (lA s) Q (100 + 5 * n + 5) (3000 + 30 * n + 30) (lW aC a1 a2 ao aD fo go (zc z2 y2) (zc z2 y3)) 2128 (lL b (a1 0) (a2 40) ao aD (5 * (n : Int))) []) : JR p l e room_1 s m #[.ref b] below meth c 9 D (lA s) Q (100 + 5 * n) (3000 + 30 * n) (lW aC a1 a2 ao aD fo go (zc z y) (zc z y')) 1709 (lL b (a1 0) (a2 40) ao aD (5 * (n : Int))) [] := by
  obtain ⟨hR, hY, hY3, hCW, hMI, h6, h29⟩ := id hI
  have hWF := hCW.1
  obtain ⟨x1, e1, r1⟩ := sx_ex (xs (5 * n + 1))
  refine r_aload_n G 1 dL_law_1709 rfl ?_
  refine r_scr (jn := 1) G hX hbl rfl (by omega) hL e1 0 5 rfl rfl dL_law_1710 dL_law_1711 dL_law_1713 dL_law_1714 dL_law_1715 ?_
  refine r_aload_n G 3 dL_law_1716 rfl ?_
  refine r_ws (lW_L _ _ _ _ _ _ _ _ _) ?_
  refine r_calls (w0 := []) (w2 := [(aD, oD aC go)] ++ (wd aC a2 shM (zc z y') ++ [])) (wx := [(ao, oL aC fo)] ++ (wd aC a1 shC (zc z y) ++ [])) (As := [.ref (a1 0), vi x1, .ref ao]) (st := []) (y0 := yL_worked) (idx := 211) G hTh hNo KW_worked (fun _ => lw_worked l hst hR hY hCW x1 r1) rfl ⟨rfl, rfl, Nat.le_of_ble_eq_true rfl, Nat.le_of_ble_eq_true rfl⟩ ⟨by show 100 + 5 * n + 5 ≤ 3162; omega, by show 3000 + 30 * n + 30 ≤ 121779; omega⟩ (Nat.le_of_ble_eq_true rfl) dL_law_1717 (fun i9 wx9 hp => ?_)
  obtain ⟨ga, z2, y2, rfl, rfl, hk0, hk1⟩ := hp
  refine r_ws (lW_L _ _ _ _ _ _ _ _ _).symm ?_
  refine r_istore (Lv' := [(6, vi (kcR z x1)), (0, .ref b), (1, .ref (a1 0)), (2, .ref (a2 40)), (3, .ref ao), (4, .ref aD), (5, vi (5 * (n : Int)))]) G dL_law_1720 (by decide) rfl ?_
  refine r_aload_n G 3 dL_law_1722 rfl ?_
  refine r_scr (jn := 1) G hX hbl rfl (by omega) hL e1 1 6 rfl rfl dL_law_1723 dL_law_1724 dL_law_1726 dL_law_1727 dL_law_1728 ?_
  refine r_ws (lW_M _ _ _ _ _ _ _ _ _) ?_
  refine r_calli (w0 := [(ao, oL aC ga)] ++ (wd aC a1 shC (zc z2 y2) ++ [(aD, oD aC go)])) (w2 := []) (ad := a2) (sh := shM) (z := z) (y := y') (q0 := 0) (nb := 40) (As := [vi x1]) (st := []) (y0 := yX8_worked) (idx := 213) (C := RX8) G KM_worked (fun hd => m_worked l hd hR hY3 x1 r1) rfl rfl rfl ⟨rfl, rfl, Nat.le_of_ble_eq_true rfl, Nat.le_of_ble_eq_true rfl⟩ ⟨by show 100 + 5 * n + 5 ≤ 3162; omega, by show 3000 + 30 * n + 30 ≤ 121779; omega⟩ (Nat.le_of_ble_eq_true rfl) dL_law_1729 (fun b9 z3 y3 hp => ?_)
  obtain ⟨ez3, e71, hb, hRy3, hfr⟩ := hp
  subst z3
  have hRz3 := hR
  refine r_ws (lW_M _ _ _ _ _ _ _ _ _).symm ?_
  refine r_istore (Lv' := [(7, vi b9), (6, vi (kcR z x1)), (0, .ref b), (1, .ref (a1 0)), (2, .ref (a2 40)), (3, .ref ao), (4, .ref aD), (5, vi (5 * (n : Int)))]) G dL_law_1732 (by decide) rfl ?_
  refine r_aload_n G 4 dL_law_1734 rfl ?_
  refine r_ws (lW_M _ _ _ _ _ _ _ _ _) ?_
  refine r_calli (w0 := [(ao, oL aC ga)] ++ (wd aC a1 shC (zc z2 y2) ++ [(aD, oD aC go)])) (w2 := []) (ad := a2) (sh := shM) (z := z) (y := y3) (q0 := 0) (nb := 40) (As := []) (st := []) (y0 := yX8_thrown) (idx := 130) (C := RX8) G KM_thrown (fun hd => m_thrown l hd hRz3 hRy3) rfl rfl rfl ⟨rfl, rfl, Nat.le_of_ble_eq_true rfl, Nat.le_of_ble_eq_true rfl⟩ ⟨by show 100 + 5 * n + 5 ≤ 3162; omega, by show 3000 + 30 * n + 30 ≤ 121779; omega⟩ (Nat.le_of_ble_eq_true rfl) dL_law_1735 (fun b8 z4 y4 hp => ?_)
  obtain ⟨rfl, ez4, ey4⟩ := hp
  subst z4
  subst y4
  rw [e71]
  refine r_ws (lW_M _ _ _ _ _ _ _ _ _).symm ?_
  refine r_iload G 1 dL_law_1738 rfl ?_
  refine r_icmp_same (tgt := 1745) G dL_law_1740 (by decide) ?_
  refine r_iload G 1 dL_law_1745 rfl ?_
  refine r_ifne_i (tgt := 1762) G dL_law_1747 (by decide) (by unfold kcR; (repeat' split) <;> omega) (fun h0 => ?_) (fun h0 => ?_)
  · obtain ⟨ez2, ey2⟩ := hk1 h0
    subst z2
    subst y2
    refine r_goto (tgt := 2128) G dL_law_1762 (by decide) ?_
    refine r_sub (Lv' := lL b (a1 0) (a2 40) ao aD (5 * (n : Int))) [2, 3, 4, 5, 6, 7] rfl ?_
    exact kk z y y3 ga go (LI_q hI hRy3 hfr)
  · obtain ⟨r_, hga, hre⟩ := hk0 h0
    obtain ⟨rfl, ez2, ey2⟩ := hre
    subst z2
    subst y2
    obtain rfl := hb h0
    refine r_aload_n G 5 dL_law_1750 rfl ?_
    refine r_iconst G dL_law_1751 ?_
    refine r_lald (f := ga) G 0 rfl dL_law_1752 ?_
    rw [hga]
    refine r_iload G 0 dL_law_1753 rfl ?_
    refine r_i2l G dL_law_1755 ?_
    refine r_lcmp_same G dL_law_1756 ?_
    refine r_ifeq_0 (tgt := 1762) G dL_law_1757 (by decide) ?_
    refine r_goto (tgt := 2128) G dL_law_1762 (by decide) ?_
    refine r_sub (Lv' := lL b (a1 0) (a2 40) ao aD (5 * (n : Int))) [2, 3, 4, 5, 6, 7] rfl ?_
    exact kk z y y3 ga go (LI_q hI hRy3 hfr)
set_option maxHeartbeats 4000000 in
set_option maxRecDepth 100000 in
theorem lcase_25 (l : Launch) (hst : l.stackTraces = false) {p : Program} {e : Env} {s : State} {m : MethodId} {below : List Frame} {meth : Method} {c : Code} {D : va_G} {aC : Nat → ClassId} {a1 a2 : Nat → Nat} {ao aD b L : Nat} {xs : Nat → Int32} {Q : State → Prop} (G : lG p s m #[.ref b] meth c cL_law RL 9 D aC (lA s)) (hTh : wTh (lA s) s s.heap) (hNo : wNo s) (hX : va_X b L xs s s.heap) (hbl : b < s.heap.size) (hL : L ≤ 2560) {z y y' : wZ} {n : Nat} (hI : LI n z y y') (hn : 5 * n + 5 ≤ L) {fo : Nat → Int64} {go : Nat → UInt64} (kk : ∀ (z2 y2 y3 : wZ) (fo : Nat → Int64) (go : Nat → UInt64), LI (n + 1) z2 y2 y3 → JR p l e room_1 s m #[.ref b] below meth c 9 D (lA s) Q (100 + 5 * n + 5) (3000 + 30 * n + 30) (lW aC a1 a2 ao aD fo go (zc z2 y2) (zc z2 y3)) 2128 (lL b (a1 0) (a2 40) ao aD (5 * (n : Int))) []) : JR p l e room_1 s m #[.ref b] below meth c 9 D (lA s) Q (100 + 5 * n) (3000 + 30 * n) (lW aC a1 a2 ao aD fo go (zc z y) (zc z y')) 1765 (lL b (a1 0) (a2 40) ao aD (5 * (n : Int))) [] := by
  obtain ⟨hR, hY, hY3, hCW, hMI, h6, h29⟩ := id hI
  have hWF := hCW.1
  refine r_aload_n G 1 dL_law_1765 rfl ?_
  refine r_aload_n G 3 dL_law_1766 rfl ?_
  refine r_ws (lW_L _ _ _ _ _ _ _ _ _) ?_
  refine r_calls (w0 := []) (w2 := [(aD, oD aC go)] ++ (wd aC a2 shM (zc z y') ++ [])) (wx := [(ao, oL aC fo)] ++ (wd aC a1 shC (zc z y) ++ [])) (As := [.ref (a1 0), .ref ao]) (st := []) (y0 := yL_day) (idx := 214) G hTh hNo KW_day (fun _ => lw_day l hst hR hY hCW (fun q q0 q1 => h29 q q0 (by have := hR 4 0; have h4 : z 4 0 ≤ 4 := this.2; omega))) rfl ⟨rfl, rfl, Nat.le_of_ble_eq_true rfl, Nat.le_of_ble_eq_true rfl⟩ ⟨by show 100 + 5 * n + 5 ≤ 3162; omega, by show 3000 + 30 * n + 30 ≤ 121779; omega⟩ (Nat.le_of_ble_eq_true rfl) dL_law_1767 (fun i9 wx9 hp => ?_)
  obtain ⟨ga, z2, y2, rfl, rfl, hk0, hk1⟩ := hp
  refine r_ws (lW_L _ _ _ _ _ _ _ _ _).symm ?_
  refine r_istore (Lv' := [(6, vi (kcDy z)), (0, .ref b), (1, .ref (a1 0)), (2, .ref (a2 40)), (3, .ref ao), (4, .ref aD), (5, vi (5 * (n : Int)))]) G dL_law_1770 (by decide) rfl ?_
  refine r_aload_n G 3 dL_law_1772 rfl ?_
  refine r_ws (lW_M _ _ _ _ _ _ _ _ _) ?_
  refine r_calli (w0 := [(ao, oL aC ga)] ++ (wd aC a1 shC (zc z2 y2) ++ [(aD, oD aC go)])) (w2 := []) (ad := a2) (sh := shM) (z := z) (y := y') (q0 := 0) (nb := 40) (As := []) (st := []) (y0 := yX8_day) (idx := 217) (C := RX8) G KM_day (fun hd => m_day l hd hR hY3 hWF hMI (fun q q0 q1 => h29 q q0 (by have := hR 4 0; have h4 : z 4 0 ≤ 4 := this.2; omega))) rfl rfl rfl ⟨rfl, rfl, Nat.le_of_ble_eq_true rfl, Nat.le_of_ble_eq_true rfl⟩ ⟨by show 100 + 5 * n + 5 ≤ 3162; omega, by show 3000 + 30 * n + 30 ≤ 121779; omega⟩ (Nat.le_of_ble_eq_true rfl) dL_law_1773 (fun b9 z3 y3 hp => ?_)
  obtain ⟨e71, hb, hb1, hRz3, hRy3, hfr⟩ := hp
  refine r_ws (lW_M _ _ _ _ _ _ _ _ _).symm ?_
  refine r_istore (Lv' := [(7, vi b9), (6, vi (kcDy z)), (0, .ref b), (1, .ref (a1 0)), (2, .ref (a2 40)), (3, .ref ao), (4, .ref aD), (5, vi (5 * (n : Int)))]) G dL_law_1776 (by decide) rfl ?_
  refine r_aload_n G 4 dL_law_1778 rfl ?_
  refine r_ws (lW_M _ _ _ _ _ _ _ _ _) ?_
  refine r_calli (w0 := [(ao, oL aC ga)] ++ (wd aC a1 shC (zc z2 y2) ++ [(aD, oD aC go)])) (w2 := []) (ad := a2) (sh := shM) (z := z3) (y := y3) (q0 := 0) (nb := 40) (As := []) (st := []) (y0 := yX8_thrown) (idx := 130) (C := RX8) G KM_thrown (fun hd => m_thrown l hd hRz3 hRy3) rfl rfl rfl ⟨rfl, rfl, Nat.le_of_ble_eq_true rfl, Nat.le_of_ble_eq_true rfl⟩ ⟨by show 100 + 5 * n + 5 ≤ 3162; omega, by show 3000 + 30 * n + 30 ≤ 121779; omega⟩ (Nat.le_of_ble_eq_true rfl) dL_law_1779 (fun b8 z4 y4 hp => ?_)
  obtain ⟨rfl, ez4, ey4⟩ := hp
  subst z4
  subst y4
  rw [e71]
  refine r_ws (lW_M _ _ _ _ _ _ _ _ _).symm ?_
  refine r_iload G 1 dL_law_1782 rfl ?_
  refine r_icmp_same (tgt := 1789) G dL_law_1784 (by decide) ?_
  refine r_iload G 1 dL_law_1789 rfl ?_
  refine r_ifne_i (tgt := 1806) G dL_law_1791 (by decide) (by unfold kcDy; (repeat' split) <;> omega) (fun h0 => ?_) (fun h0 => ?_)
  · obtain ⟨ez2, ey2⟩ := hk1 h0
    subst z2
    subst y2
    obtain ⟨ez3, ey3⟩ := hb1 h0
    subst z3
    refine r_goto (tgt := 2128) G dL_law_1806 (by decide) ?_
    refine r_sub (Lv' := lL b (a1 0) (a2 40) ao aD (5 * (n : Int))) [2, 3, 4, 5, 6, 7] rfl ?_
    exact kk z y y3 ga go (LI_m hI hR hY hRy3 hCW (MI_y hMI ey3) (by omega) rfl rfl)
  · obtain ⟨r_, hga, hre⟩ := hk0 h0
    obtain ⟨rfl, ez2, hRz2, hRy2, hCW2, h62, h292⟩ := hre
    obtain ⟨rfl, ez3, hWF3, hMI3⟩ := hb h0
    subst z3
    have e7 : z2 7 0 = z 7 0 + 1 := by rw [ez2, zp_same]
    have e29 : ∀ q, 0 ≤ q → q < 4 → z2 29 q ≤ 480 * z2 7 0 := by
      intro q q0 q1
      rw [e7]
      by_cases c4 : q < z 4 0
      · exact h292 q q0 c4
      · have := h29 q q0 q1
        have h4 : 0 ≤ z 4 0 := (hR 4 0).1
        rw [ez2, zp_nk _ (by decide), dyL_29 _ _ _ _ _ (Or.inr (by omega))]
        omega
    refine r_aload_n G 5 dL_law_1794 rfl ?_
    refine r_iconst G dL_law_1795 ?_
    refine r_lald (f := ga) G 0 rfl dL_law_1796 ?_
    rw [hga]
    refine r_iload G 0 dL_law_1797 rfl ?_
    refine r_i2l G dL_law_1799 ?_
    refine r_lcmp_same G dL_law_1800 ?_
    refine r_ifeq_0 (tgt := 1806) G dL_law_1801 (by decide) ?_
    refine r_goto (tgt := 2128) G dL_law_1806 (by decide) ?_
    refine r_sub (Lv' := lL b (a1 0) (a2 40) ao aD (5 * (n : Int))) [2, 3, 4, 5, 6, 7] rfl ?_
    rw [← ez2]
    exact kk _ y2 y3 ga go ⟨hRz2, hRy2, hRy3, hCW2, by rw [ez2]; exact hMI3, by push_cast; omega, e29⟩
set_option maxHeartbeats 4000000 in
set_option maxRecDepth 100000 in
theorem lcase_26 (l : Launch) (hst : l.stackTraces = false) {p : Program} {e : Env} {s : State} {m : MethodId} {below : List Frame} {meth : Method} {c : Code} {D : va_G} {aC : Nat → ClassId} {a1 a2 : Nat → Nat} {ao aD b L : Nat} {xs : Nat → Int32} {Q : State → Prop} (G : lG p s m #[.ref b] meth c cL_law RL 9 D aC (lA s)) (hTh : wTh (lA s) s s.heap) (hNo : wNo s) (hX : va_X b L xs s s.heap) (hbl : b < s.heap.size) (hL : L ≤ 2560) {z y y' : wZ} {n : Nat} (hI : LI n z y y') (hn : 5 * n + 5 ≤ L) {fo : Nat → Int64} {go : Nat → UInt64} (kk : ∀ (z2 y2 y3 : wZ) (fo : Nat → Int64) (go : Nat → UInt64), LI (n + 1) z2 y2 y3 → JR p l e room_1 s m #[.ref b] below meth c 9 D (lA s) Q (100 + 5 * n + 5) (3000 + 30 * n + 30) (lW aC a1 a2 ao aD fo go (zc z2 y2) (zc z2 y3)) 2128 (lL b (a1 0) (a2 40) ao aD (5 * (n : Int))) []) : JR p l e room_1 s m #[.ref b] below meth c 9 D (lA s) Q (100 + 5 * n) (3000 + 30 * n) (lW aC a1 a2 ao aD fo go (zc z y) (zc z y')) 1809 (lL b (a1 0) (a2 40) ao aD (5 * (n : Int))) [] := by
  obtain ⟨hR, hY, hY3, hCW, hMI, h6, h29⟩ := id hI
  have hWF := hCW.1
  refine r_aload_n G 1 dL_law_1809 rfl ?_
  refine r_aload_n G 3 dL_law_1810 rfl ?_
  refine r_ws (lW_L _ _ _ _ _ _ _ _ _) ?_
  refine r_calls (w0 := []) (w2 := [(aD, oD aC go)] ++ (wd aC a2 shM (zc z y') ++ [])) (wx := [(ao, oL aC fo)] ++ (wd aC a1 shC (zc z y) ++ [])) (As := [.ref (a1 0), .ref ao]) (st := []) (y0 := yL_print) (idx := 218) G hTh hNo KW_print (fun _ => lw_print l hst hR hY hCW) rfl ⟨rfl, rfl, Nat.le_of_ble_eq_true rfl, Nat.le_of_ble_eq_true rfl⟩ ⟨by show 100 + 5 * n + 5 ≤ 3162; omega, by show 3000 + 30 * n + 30 ≤ 121779; omega⟩ (Nat.le_of_ble_eq_true rfl) dL_law_1811 (fun i9 wx9 hp => ?_)
  obtain ⟨ga, z2, y2, rfl, rfl, hk0, hk1⟩ := hp
  refine r_ws (lW_L _ _ _ _ _ _ _ _ _).symm ?_
  refine r_istore (Lv' := [(6, vi (kcPr z)), (0, .ref b), (1, .ref (a1 0)), (2, .ref (a2 40)), (3, .ref ao), (4, .ref aD), (5, vi (5 * (n : Int)))]) G dL_law_1814 (by decide) rfl ?_
  refine r_aload_n G 3 dL_law_1816 rfl ?_
  refine r_ws (lW_M _ _ _ _ _ _ _ _ _) ?_
  refine r_calli (w0 := [(ao, oL aC ga)] ++ (wd aC a1 shC (zc z2 y2) ++ [(aD, oD aC go)])) (w2 := []) (ad := a2) (sh := shM) (z := z) (y := y') (q0 := 0) (nb := 40) (As := []) (st := []) (y0 := yX8_print) (idx := 220) (C := RX8) G KM_print (fun hd => m_print l hd hR hY3) rfl rfl rfl ⟨rfl, rfl, Nat.le_of_ble_eq_true rfl, Nat.le_of_ble_eq_true rfl⟩ ⟨by show 100 + 5 * n + 5 ≤ 3162; omega, by show 3000 + 30 * n + 30 ≤ 121779; omega⟩ (Nat.le_of_ble_eq_true rfl) dL_law_1817 (fun b9 z3 y3 hp => ?_)
  obtain ⟨e71, hb, hb1, hRz3, hRy3, hfr⟩ := hp
  refine r_ws (lW_M _ _ _ _ _ _ _ _ _).symm ?_
  refine r_istore (Lv' := [(7, vi b9), (6, vi (kcPr z)), (0, .ref b), (1, .ref (a1 0)), (2, .ref (a2 40)), (3, .ref ao), (4, .ref aD), (5, vi (5 * (n : Int)))]) G dL_law_1820 (by decide) rfl ?_
  refine r_aload_n G 4 dL_law_1822 rfl ?_
  refine r_ws (lW_M _ _ _ _ _ _ _ _ _) ?_
  refine r_calli (w0 := [(ao, oL aC ga)] ++ (wd aC a1 shC (zc z2 y2) ++ [(aD, oD aC go)])) (w2 := []) (ad := a2) (sh := shM) (z := z3) (y := y3) (q0 := 0) (nb := 40) (As := []) (st := []) (y0 := yX8_thrown) (idx := 130) (C := RX8) G KM_thrown (fun hd => m_thrown l hd hRz3 hRy3) rfl rfl rfl ⟨rfl, rfl, Nat.le_of_ble_eq_true rfl, Nat.le_of_ble_eq_true rfl⟩ ⟨by show 100 + 5 * n + 5 ≤ 3162; omega, by show 3000 + 30 * n + 30 ≤ 121779; omega⟩ (Nat.le_of_ble_eq_true rfl) dL_law_1823 (fun b8 z4 y4 hp => ?_)
  obtain ⟨rfl, ez4, ey4⟩ := hp
  subst z4
  subst y4
  rw [e71]
  refine r_ws (lW_M _ _ _ _ _ _ _ _ _).symm ?_
  refine r_iload G 1 dL_law_1826 rfl ?_
  refine r_icmp_same (tgt := 1833) G dL_law_1828 (by decide) ?_
  refine r_iload G 1 dL_law_1833 rfl ?_
  refine r_ifne_i (tgt := 1850) G dL_law_1835 (by decide) (by unfold kcPr; (repeat' split) <;> omega) (fun h0 => ?_) (fun h0 => ?_)
  · obtain ⟨ez2, ey2⟩ := hk1 h0
    subst z2
    subst y2
    have ez3 := hb1 h0
    subst z3
    refine r_goto (tgt := 2128) G dL_law_1850 (by decide) ?_
    refine r_sub (Lv' := lL b (a1 0) (a2 40) ao aD (5 * (n : Int))) [2, 3, 4, 5, 6, 7] rfl ?_
    exact kk z y y3 ga go (LI_q hI hRy3 hfr)
  · obtain ⟨r_, hga, hre⟩ := hk0 h0
    obtain ⟨rfl, ez2, hRz2, hRy2, hCW2⟩ := hre
    subst z2
    obtain ⟨rfl, ez3⟩ := hb h0
    subst z3
    refine r_aload_n G 5 dL_law_1838 rfl ?_
    refine r_iconst G dL_law_1839 ?_
    refine r_lald (f := ga) G 0 rfl dL_law_1840 ?_
    rw [hga]
    refine r_iload G 0 dL_law_1841 rfl ?_
    refine r_i2l G dL_law_1843 ?_
    refine r_lcmp_same G dL_law_1844 ?_
    refine r_ifeq_0 (tgt := 1850) G dL_law_1845 (by decide) ?_
    refine r_goto (tgt := 2128) G dL_law_1850 (by decide) ?_
    refine r_sub (Lv' := lL b (a1 0) (a2 40) ao aD (5 * (n : Int))) [2, 3, 4, 5, 6, 7] rfl ?_
    exact kk _ y2 y3 ga go (LI_u hI hRz2 hRy2 hRy3 hCW2 hfr (by rw [LdrwF_k _ _ ⟨by decide, by decide, by decide⟩]; omega) (LdrwF_k _ _ ⟨by decide, by decide, by decide⟩) (LdrwF_k _ _ ⟨by decide, by decide, by decide⟩) (LdrwF_k _ _ ⟨by decide, by decide, by decide⟩))
set_option maxHeartbeats 4000000 in
set_option maxRecDepth 100000 in
theorem lcase_27 (l : Launch) (hst : l.stackTraces = false) {p : Program} {e : Env} {s : State} {m : MethodId} {below : List Frame} {meth : Method} {c : Code} {D : va_G} {aC : Nat → ClassId} {a1 a2 : Nat → Nat} {ao aD b L : Nat} {xs : Nat → Int32} {Q : State → Prop} (G : lG p s m #[.ref b] meth c cL_law RL 9 D aC (lA s)) (hTh : wTh (lA s) s s.heap) (hNo : wNo s) (hX : va_X b L xs s s.heap) (hbl : b < s.heap.size) (hL : L ≤ 2560) {z y y' : wZ} {n : Nat} (hI : LI n z y y') (hn : 5 * n + 5 ≤ L) {fo : Nat → Int64} {go : Nat → UInt64} (kk : ∀ (z2 y2 y3 : wZ) (fo : Nat → Int64) (go : Nat → UInt64), LI (n + 1) z2 y2 y3 → JR p l e room_1 s m #[.ref b] below meth c 9 D (lA s) Q (100 + 5 * n + 5) (3000 + 30 * n + 30) (lW aC a1 a2 ao aD fo go (zc z2 y2) (zc z2 y3)) 2128 (lL b (a1 0) (a2 40) ao aD (5 * (n : Int))) []) : JR p l e room_1 s m #[.ref b] below meth c 9 D (lA s) Q (100 + 5 * n) (3000 + 30 * n) (lW aC a1 a2 ao aD fo go (zc z y) (zc z y')) 1853 (lL b (a1 0) (a2 40) ao aD (5 * (n : Int))) [] := by
  obtain ⟨hR, hY, hY3, hCW, hMI, h6, h29⟩ := id hI
  have hWF := hCW.1
  obtain ⟨x1, e1, r1⟩ := sx_ex (xs (5 * n + 1))
  obtain ⟨x2, e2, r2⟩ := sx_ex (xs (5 * n + 2))
  refine r_aload_n G 1 dL_law_1853 rfl ?_
  refine r_scr (jn := 1) G hX hbl rfl (by omega) hL e1 0 5 rfl rfl dL_law_1854 dL_law_1855 dL_law_1857 dL_law_1858 dL_law_1859 ?_
  refine r_scr (jn := 2) G hX hbl rfl (by omega) hL e2 0 5 rfl rfl dL_law_1860 dL_law_1861 dL_law_1863 dL_law_1864 dL_law_1865 ?_
  refine r_aload_n G 3 dL_law_1866 rfl ?_
  refine r_ws (lW_L _ _ _ _ _ _ _ _ _) ?_
  refine r_calls (w0 := []) (w2 := [(aD, oD aC go)] ++ (wd aC a2 shM (zc z y') ++ [])) (wx := [(ao, oL aC fo)] ++ (wd aC a1 shC (zc z y) ++ [])) (As := [.ref (a1 0), vi x1, vi x2, .ref ao]) (st := []) (y0 := yL_shows) (idx := 221) G hTh hNo KW_shows (fun _ => lw_shows l hst hR hY hCW x1 x2 r1 r2) rfl ⟨rfl, rfl, Nat.le_of_ble_eq_true rfl, Nat.le_of_ble_eq_true rfl⟩ ⟨by show 100 + 5 * n + 5 ≤ 3162; omega, by show 3000 + 30 * n + 30 ≤ 121779; omega⟩ (Nat.le_of_ble_eq_true rfl) dL_law_1867 (fun i9 wx9 hp => ?_)
  obtain ⟨ga, z2, y2, rfl, rfl, hk0, hk1⟩ := hp
  refine r_ws (lW_L _ _ _ _ _ _ _ _ _).symm ?_
  refine r_istore (Lv' := [(6, vi (kcSh z x1 x2)), (0, .ref b), (1, .ref (a1 0)), (2, .ref (a2 40)), (3, .ref ao), (4, .ref aD), (5, vi (5 * (n : Int)))]) G dL_law_1870 (by decide) rfl ?_
  refine r_aload_n G 3 dL_law_1872 rfl ?_
  refine r_scr (jn := 1) G hX hbl rfl (by omega) hL e1 1 6 rfl rfl dL_law_1873 dL_law_1874 dL_law_1876 dL_law_1877 dL_law_1878 ?_
  refine r_scr (jn := 2) G hX hbl rfl (by omega) hL e2 1 6 rfl rfl dL_law_1879 dL_law_1880 dL_law_1882 dL_law_1883 dL_law_1884 ?_
  refine r_ws (lW_M _ _ _ _ _ _ _ _ _) ?_
  refine r_calli (w0 := [(ao, oL aC ga)] ++ (wd aC a1 shC (zc z2 y2) ++ [(aD, oD aC go)])) (w2 := []) (ad := a2) (sh := shM) (z := z) (y := y') (q0 := 0) (nb := 40) (As := [vi x1, vi x2]) (st := []) (y0 := yX8_shows) (idx := 223) (C := RX8) G KM_shows (fun hd => m_shows l hd hR hY3 x1 x2 r1 r2) rfl rfl rfl ⟨rfl, rfl, Nat.le_of_ble_eq_true rfl, Nat.le_of_ble_eq_true rfl⟩ ⟨by show 100 + 5 * n + 5 ≤ 3162; omega, by show 3000 + 30 * n + 30 ≤ 121779; omega⟩ (Nat.le_of_ble_eq_true rfl) dL_law_1885 (fun b9 z3 y3 hp => ?_)
  obtain ⟨ez3, e71, hb, hRy3, hfr⟩ := hp
  subst z3
  have hRz3 := hR
  refine r_ws (lW_M _ _ _ _ _ _ _ _ _).symm ?_
  refine r_istore (Lv' := [(7, vi b9), (6, vi (kcSh z x1 x2)), (0, .ref b), (1, .ref (a1 0)), (2, .ref (a2 40)), (3, .ref ao), (4, .ref aD), (5, vi (5 * (n : Int)))]) G dL_law_1888 (by decide) rfl ?_
  refine r_aload_n G 4 dL_law_1890 rfl ?_
  refine r_ws (lW_M _ _ _ _ _ _ _ _ _) ?_
  refine r_calli (w0 := [(ao, oL aC ga)] ++ (wd aC a1 shC (zc z2 y2) ++ [(aD, oD aC go)])) (w2 := []) (ad := a2) (sh := shM) (z := z) (y := y3) (q0 := 0) (nb := 40) (As := []) (st := []) (y0 := yX8_thrown) (idx := 130) (C := RX8) G KM_thrown (fun hd => m_thrown l hd hRz3 hRy3) rfl rfl rfl ⟨rfl, rfl, Nat.le_of_ble_eq_true rfl, Nat.le_of_ble_eq_true rfl⟩ ⟨by show 100 + 5 * n + 5 ≤ 3162; omega, by show 3000 + 30 * n + 30 ≤ 121779; omega⟩ (Nat.le_of_ble_eq_true rfl) dL_law_1891 (fun b8 z4 y4 hp => ?_)
  obtain ⟨rfl, ez4, ey4⟩ := hp
  subst z4
  subst y4
  rw [e71]
  refine r_ws (lW_M _ _ _ _ _ _ _ _ _).symm ?_
  refine r_iload G 1 dL_law_1894 rfl ?_
  refine r_icmp_same (tgt := 1901) G dL_law_1896 (by decide) ?_
  refine r_iload G 1 dL_law_1901 rfl ?_
  refine r_ifne_i (tgt := 1925) G dL_law_1903 (by decide) (by unfold kcSh; (repeat' split) <;> omega) (fun h0 => ?_) (fun h0 => ?_)
  · obtain ⟨ez2, ey2⟩ := hk1 h0
    subst z2
    subst y2
    refine r_goto (tgt := 2128) G dL_law_1925 (by decide) ?_
    refine r_sub (Lv' := lL b (a1 0) (a2 40) ao aD (5 * (n : Int))) [2, 3, 4, 5, 6, 7] rfl ?_
    exact kk z y y3 ga go (LI_q hI hRy3 hfr)
  · obtain ⟨r_, hga, hre⟩ := hk0 h0
    obtain ⟨rfl, ez2, ey2⟩ := hre
    subst z2
    subst y2
    obtain rfl := hb h0
    refine r_aload_n G 5 dL_law_1906 rfl ?_
    refine r_iconst G dL_law_1907 ?_
    refine r_lald (f := ga) G 0 rfl dL_law_1908 ?_
    rw [hga]
    refine r_iload G 0 dL_law_1909 rfl ?_
    refine r_lbool G dL_law_1911 dL_law_1914 dL_law_1915 dL_law_1918 ?_
    refine r_lcmp_same G dL_law_1919 ?_
    refine r_ifeq_0 (tgt := 1925) G dL_law_1920 (by decide) ?_
    refine r_goto (tgt := 2128) G dL_law_1925 (by decide) ?_
    refine r_sub (Lv' := lL b (a1 0) (a2 40) ao aD (5 * (n : Int))) [2, 3, 4, 5, 6, 7] rfl ?_
    exact kk z y y3 ga go (LI_q hI hRy3 hfr)
set_option maxHeartbeats 4000000 in
set_option maxRecDepth 100000 in
theorem lcase_28 (l : Launch) (hst : l.stackTraces = false) {p : Program} {e : Env} {s : State} {m : MethodId} {below : List Frame} {meth : Method} {c : Code} {D : va_G} {aC : Nat → ClassId} {a1 a2 : Nat → Nat} {ao aD b L : Nat} {xs : Nat → Int32} {Q : State → Prop} (G : lG p s m #[.ref b] meth c cL_law RL 9 D aC (lA s)) (hTh : wTh (lA s) s s.heap) (hNo : wNo s) (hX : va_X b L xs s s.heap) (hbl : b < s.heap.size) (hL : L ≤ 2560) {z y y' : wZ} {n : Nat} (hI : LI n z y y') (hn : 5 * n + 5 ≤ L) {fo : Nat → Int64} {go : Nat → UInt64} (kk : ∀ (z2 y2 y3 : wZ) (fo : Nat → Int64) (go : Nat → UInt64), LI (n + 1) z2 y2 y3 → JR p l e room_1 s m #[.ref b] below meth c 9 D (lA s) Q (100 + 5 * n + 5) (3000 + 30 * n + 30) (lW aC a1 a2 ao aD fo go (zc z2 y2) (zc z2 y3)) 2128 (lL b (a1 0) (a2 40) ao aD (5 * (n : Int))) []) : JR p l e room_1 s m #[.ref b] below meth c 9 D (lA s) Q (100 + 5 * n) (3000 + 30 * n) (lW aC a1 a2 ao aD fo go (zc z y) (zc z y')) 1928 (lL b (a1 0) (a2 40) ao aD (5 * (n : Int))) [] := by
  obtain ⟨hR, hY, hY3, hCW, hMI, h6, h29⟩ := id hI
  have hWF := hCW.1
  obtain ⟨x1, e1, r1⟩ := sx_ex (xs (5 * n + 1))
  refine r_aload_n G 1 dL_law_1928 rfl ?_
  refine r_scr (jn := 1) G hX hbl rfl (by omega) hL e1 0 5 rfl rfl dL_law_1929 dL_law_1930 dL_law_1932 dL_law_1933 dL_law_1934 ?_
  refine r_aload_n G 3 dL_law_1935 rfl ?_
  refine r_ws (lW_L _ _ _ _ _ _ _ _ _) ?_
  refine r_calls (w0 := []) (w2 := [(aD, oD aC go)] ++ (wd aC a2 shM (zc z y') ++ [])) (wx := [(ao, oL aC fo)] ++ (wd aC a1 shC (zc z y) ++ [])) (As := [.ref (a1 0), vi x1, .ref ao]) (st := []) (y0 := yL_age) (idx := 224) G hTh hNo KW_age (fun _ => lw_age l hst hR hY hCW x1 r1) rfl ⟨rfl, rfl, Nat.le_of_ble_eq_true rfl, Nat.le_of_ble_eq_true rfl⟩ ⟨by show 100 + 5 * n + 5 ≤ 3162; omega, by show 3000 + 30 * n + 30 ≤ 121779; omega⟩ (Nat.le_of_ble_eq_true rfl) dL_law_1936 (fun i9 wx9 hp => ?_)
  obtain ⟨ga, z2, y2, rfl, rfl, hk0, hk1⟩ := hp
  refine r_ws (lW_L _ _ _ _ _ _ _ _ _).symm ?_
  refine r_istore (Lv' := [(6, vi (kcM z x1)), (0, .ref b), (1, .ref (a1 0)), (2, .ref (a2 40)), (3, .ref ao), (4, .ref aD), (5, vi (5 * (n : Int)))]) G dL_law_1939 (by decide) rfl ?_
  refine r_aload_n G 3 dL_law_1941 rfl ?_
  refine r_scr (jn := 1) G hX hbl rfl (by omega) hL e1 1 6 rfl rfl dL_law_1942 dL_law_1943 dL_law_1945 dL_law_1946 dL_law_1947 ?_
  refine r_ws (lW_M _ _ _ _ _ _ _ _ _) ?_
  refine r_calli (w0 := [(ao, oL aC ga)] ++ (wd aC a1 shC (zc z2 y2) ++ [(aD, oD aC go)])) (w2 := []) (ad := a2) (sh := shM) (z := z) (y := y') (q0 := 0) (nb := 40) (As := [vi x1]) (st := []) (y0 := yX8_age) (idx := 226) (C := RX8) G KM_age (fun hd => m_age l hd hR hY3 x1 r1) rfl rfl rfl ⟨rfl, rfl, Nat.le_of_ble_eq_true rfl, Nat.le_of_ble_eq_true rfl⟩ ⟨by show 100 + 5 * n + 5 ≤ 3162; omega, by show 3000 + 30 * n + 30 ≤ 121779; omega⟩ (Nat.le_of_ble_eq_true rfl) dL_law_1948 (fun b9 z3 y3 hp => ?_)
  obtain ⟨ez3, e71, hb, hRy3, hfr⟩ := hp
  subst z3
  have hRz3 := hR
  refine r_ws (lW_M _ _ _ _ _ _ _ _ _).symm ?_
  refine r_istore (Lv' := [(7, vi b9), (6, vi (kcM z x1)), (0, .ref b), (1, .ref (a1 0)), (2, .ref (a2 40)), (3, .ref ao), (4, .ref aD), (5, vi (5 * (n : Int)))]) G dL_law_1951 (by decide) rfl ?_
  refine r_aload_n G 4 dL_law_1953 rfl ?_
  refine r_ws (lW_M _ _ _ _ _ _ _ _ _) ?_
  refine r_calli (w0 := [(ao, oL aC ga)] ++ (wd aC a1 shC (zc z2 y2) ++ [(aD, oD aC go)])) (w2 := []) (ad := a2) (sh := shM) (z := z) (y := y3) (q0 := 0) (nb := 40) (As := []) (st := []) (y0 := yX8_thrown) (idx := 130) (C := RX8) G KM_thrown (fun hd => m_thrown l hd hRz3 hRy3) rfl rfl rfl ⟨rfl, rfl, Nat.le_of_ble_eq_true rfl, Nat.le_of_ble_eq_true rfl⟩ ⟨by show 100 + 5 * n + 5 ≤ 3162; omega, by show 3000 + 30 * n + 30 ≤ 121779; omega⟩ (Nat.le_of_ble_eq_true rfl) dL_law_1954 (fun b8 z4 y4 hp => ?_)
  obtain ⟨rfl, ez4, ey4⟩ := hp
  subst z4
  subst y4
  rw [e71]
  refine r_ws (lW_M _ _ _ _ _ _ _ _ _).symm ?_
  refine r_iload G 1 dL_law_1957 rfl ?_
  refine r_icmp_same (tgt := 1964) G dL_law_1959 (by decide) ?_
  refine r_iload G 1 dL_law_1964 rfl ?_
  refine r_ifne_i (tgt := 1981) G dL_law_1966 (by decide) (by unfold kcM; (repeat' split) <;> omega) (fun h0 => ?_) (fun h0 => ?_)
  · obtain ⟨ez2, ey2⟩ := hk1 h0
    subst z2
    subst y2
    refine r_goto (tgt := 2128) G dL_law_1981 (by decide) ?_
    refine r_sub (Lv' := lL b (a1 0) (a2 40) ao aD (5 * (n : Int))) [2, 3, 4, 5, 6, 7] rfl ?_
    exact kk z y y3 ga go (LI_q hI hRy3 hfr)
  · obtain ⟨r_, hga, hre⟩ := hk0 h0
    obtain ⟨rfl, ez2, ey2⟩ := hre
    subst z2
    subst y2
    obtain rfl := hb h0
    refine r_aload_n G 5 dL_law_1969 rfl ?_
    refine r_iconst G dL_law_1970 ?_
    refine r_lald (f := ga) G 0 rfl dL_law_1971 ?_
    rw [hga]
    refine r_iload G 0 dL_law_1972 rfl ?_
    refine r_i2l G dL_law_1974 ?_
    refine r_lcmp_same G dL_law_1975 ?_
    refine r_ifeq_0 (tgt := 1981) G dL_law_1976 (by decide) ?_
    refine r_goto (tgt := 2128) G dL_law_1981 (by decide) ?_
    refine r_sub (Lv' := lL b (a1 0) (a2 40) ao aD (5 * (n : Int))) [2, 3, 4, 5, 6, 7] rfl ?_
    exact kk z y y3 ga go (LI_q hI hRy3 hfr)
set_option maxHeartbeats 4000000 in
set_option maxRecDepth 100000 in
theorem lcase_29 (l : Launch) (hst : l.stackTraces = false) {p : Program} {e : Env} {s : State} {m : MethodId} {below : List Frame} {meth : Method} {c : Code} {D : va_G} {aC : Nat → ClassId} {a1 a2 : Nat → Nat} {ao aD b L : Nat} {xs : Nat → Int32} {Q : State → Prop} (G : lG p s m #[.ref b] meth c cL_law RL 9 D aC (lA s)) (hTh : wTh (lA s) s s.heap) (hNo : wNo s) (hX : va_X b L xs s s.heap) (hbl : b < s.heap.size) (hL : L ≤ 2560) {z y y' : wZ} {n : Nat} (hI : LI n z y y') (hn : 5 * n + 5 ≤ L) {fo : Nat → Int64} {go : Nat → UInt64} (kk : ∀ (z2 y2 y3 : wZ) (fo : Nat → Int64) (go : Nat → UInt64), LI (n + 1) z2 y2 y3 → JR p l e room_1 s m #[.ref b] below meth c 9 D (lA s) Q (100 + 5 * n + 5) (3000 + 30 * n + 30) (lW aC a1 a2 ao aD fo go (zc z2 y2) (zc z2 y3)) 2128 (lL b (a1 0) (a2 40) ao aD (5 * (n : Int))) []) : JR p l e room_1 s m #[.ref b] below meth c 9 D (lA s) Q (100 + 5 * n) (3000 + 30 * n) (lW aC a1 a2 ao aD fo go (zc z y) (zc z y')) 1984 (lL b (a1 0) (a2 40) ao aD (5 * (n : Int))) [] := by
  obtain ⟨hR, hY, hY3, hCW, hMI, h6, h29⟩ := id hI
  have hWF := hCW.1
  refine r_aload_n G 1 dL_law_1984 rfl ?_
  refine r_aload G 4 dL_law_1985 rfl ?_
  refine r_ws (lW_D _ _ _ _ _ _ _ _ _) ?_
  refine r_calls (w0 := [(ao, oL aC fo)]) (w2 := (wd aC a2 shM (zc z y') ++ [])) (wx := wd aC a1 shC (zc z y) ++ [(aD, oD aC go)]) (As := [.ref (a1 0), .ref aD]) (st := []) (y0 := yL_knownShare) (idx := 227) G hTh hNo KW_knownShare (fun _ => lw_knownShare l hst hR hY) rfl ⟨rfl, rfl, Nat.le_of_ble_eq_true rfl, Nat.le_of_ble_eq_true rfl⟩ ⟨by show 100 + 5 * n + 5 ≤ 3162; omega, by show 3000 + 30 * n + 30 ≤ 121779; omega⟩ (Nat.le_of_ble_eq_true rfl) dL_law_1987 (fun i9 wx9 hp => ?_)
  obtain ⟨ga, z2, y2, rfl, rfl, hk0, hk1⟩ := hp
  refine r_ws (lW_D _ _ _ _ _ _ _ _ _).symm ?_
  refine r_istore (Lv' := [(6, vi (kcKS z)), (0, .ref b), (1, .ref (a1 0)), (2, .ref (a2 40)), (3, .ref ao), (4, .ref aD), (5, vi (5 * (n : Int)))]) G dL_law_1990 (by decide) rfl ?_
  refine r_aload_n G 3 dL_law_1992 rfl ?_
  refine r_ws (lW_M _ _ _ _ _ _ _ _ _) ?_
  refine r_callf (w0 := [(ao, oL aC fo)] ++ (wd aC a1 shC (zc z2 y2) ++ [(aD, oD aC ga)])) (w2 := []) (ad := a2) (sh := shM) (z := z) (y := y') (q0 := 0) (nb := 40) (As := []) (st := []) (y0 := yX8_knownShare) (idx := 230) (C := RX8) G KM_knownShare (fun hd => m_knownShare l hd hR hY3) rfl rfl rfl ⟨rfl, rfl, Nat.le_of_ble_eq_true rfl, Nat.le_of_ble_eq_true rfl⟩ ⟨by show 100 + 5 * n + 5 ≤ 3162; omega, by show 3000 + 30 * n + 30 ≤ 121779; omega⟩ (Nat.le_of_ble_eq_true rfl) dL_law_1993 (fun b9 z3 y3 hp => ?_)
  obtain ⟨e71, hb, ez3, hRy3, hfr⟩ := hp
  subst z3
  have hRz3 := hR
  refine r_ws (lW_M _ _ _ _ _ _ _ _ _).symm ?_
  refine r_fstore (Lv' := [(7, .float b9), (6, vi (kcKS z)), (0, .ref b), (1, .ref (a1 0)), (2, .ref (a2 40)), (3, .ref ao), (4, .ref aD), (5, vi (5 * (n : Int)))]) G dL_law_1996 (by decide) rfl ?_
  refine r_aload_n G 4 dL_law_1998 rfl ?_
  refine r_ws (lW_M _ _ _ _ _ _ _ _ _) ?_
  refine r_calli (w0 := [(ao, oL aC fo)] ++ (wd aC a1 shC (zc z2 y2) ++ [(aD, oD aC ga)])) (w2 := []) (ad := a2) (sh := shM) (z := z) (y := y3) (q0 := 0) (nb := 40) (As := []) (st := []) (y0 := yX8_thrown) (idx := 130) (C := RX8) G KM_thrown (fun hd => m_thrown l hd hRz3 hRy3) rfl rfl rfl ⟨rfl, rfl, Nat.le_of_ble_eq_true rfl, Nat.le_of_ble_eq_true rfl⟩ ⟨by show 100 + 5 * n + 5 ≤ 3162; omega, by show 3000 + 30 * n + 30 ≤ 121779; omega⟩ (Nat.le_of_ble_eq_true rfl) dL_law_1999 (fun b8 z4 y4 hp => ?_)
  obtain ⟨rfl, ez4, ey4⟩ := hp
  subst z4
  subst y4
  rw [e71]
  refine r_ws (lW_M _ _ _ _ _ _ _ _ _).symm ?_
  refine r_iload G 1 dL_law_2002 rfl ?_
  refine r_icmp_same (tgt := 2009) G dL_law_2004 (by decide) ?_
  refine r_iload G 1 dL_law_2009 rfl ?_
  refine r_ifne_i (tgt := 2047) G dL_law_2011 (by decide) (by unfold kcKS; (repeat' split) <;> omega) (fun h0 => ?_) (fun h0 => ?_)
  · obtain ⟨ez2, ey2⟩ := hk1 h0
    subst z2
    subst y2
    refine r_goto (tgt := 2128) G dL_law_2047 (by decide) ?_
    refine r_sub (Lv' := lL b (a1 0) (a2 40) ao aD (5 * (n : Int))) [2, 3, 4, 5, 6, 7] rfl ?_
    exact kk z y y3 fo ga (LI_q hI hRy3 hfr)
  · obtain ⟨r_, hga, hre⟩ := hk0 h0
    obtain ⟨rfl, ez2, ey2⟩ := hre
    subst z2
    subst y2
    obtain rfl := hb h0
    refine r_aload G 6 dL_law_2014 rfl ?_
    refine r_iconst G dL_law_2016 ?_
    refine r_dald (f := ga) G 36 rfl dL_law_2017 ?_
    rw [hga]
    have hnn := f2d_nn (ksF_n hR h0)
    refine r_fload G 0 dL_law_2018 rfl ?_
    refine r_f2d G (n64_of hnn) dL_law_2020 ?_
    refine r_dcmp (v := 0) G (dcmp_s _ hnn) dL_law_2021 ?_
    refine r_ifeq_0 (tgt := 2047) G dL_law_2022 (by decide) ?_
    refine r_goto (tgt := 2128) G dL_law_2047 (by decide) ?_
    refine r_sub (Lv' := lL b (a1 0) (a2 40) ao aD (5 * (n : Int))) [2, 3, 4, 5, 6, 7] rfl ?_
    exact kk z y y3 fo ga (LI_q hI hRy3 hfr)
set_option maxHeartbeats 4000000 in
set_option maxRecDepth 100000 in
theorem lcase_30 (l : Launch) (hst : l.stackTraces = false) {p : Program} {e : Env} {s : State} {m : MethodId} {below : List Frame} {meth : Method} {c : Code} {D : va_G} {aC : Nat → ClassId} {a1 a2 : Nat → Nat} {ao aD b L : Nat} {xs : Nat → Int32} {Q : State → Prop} (G : lG p s m #[.ref b] meth c cL_law RL 9 D aC (lA s)) (hTh : wTh (lA s) s s.heap) (hNo : wNo s) (hX : va_X b L xs s s.heap) (hbl : b < s.heap.size) (hL : L ≤ 2560) {z y y' : wZ} {n : Nat} (hI : LI n z y y') (hn : 5 * n + 5 ≤ L) {fo : Nat → Int64} {go : Nat → UInt64} (kk : ∀ (z2 y2 y3 : wZ) (fo : Nat → Int64) (go : Nat → UInt64), LI (n + 1) z2 y2 y3 → JR p l e room_1 s m #[.ref b] below meth c 9 D (lA s) Q (100 + 5 * n + 5) (3000 + 30 * n + 30) (lW aC a1 a2 ao aD fo go (zc z2 y2) (zc z2 y3)) 2128 (lL b (a1 0) (a2 40) ao aD (5 * (n : Int))) []) : JR p l e room_1 s m #[.ref b] below meth c 9 D (lA s) Q (100 + 5 * n) (3000 + 30 * n) (lW aC a1 a2 ao aD fo go (zc z y) (zc z y')) 2050 (lL b (a1 0) (a2 40) ao aD (5 * (n : Int))) [] := by
  obtain ⟨hR, hY, hY3, hCW, hMI, h6, h29⟩ := id hI
  have hWF := hCW.1
  refine r_aload_n G 1 dL_law_2050 rfl ?_
  refine r_aload G 4 dL_law_2051 rfl ?_
  refine r_ws (lW_D _ _ _ _ _ _ _ _ _) ?_
  refine r_calls (w0 := [(ao, oL aC fo)]) (w2 := (wd aC a2 shM (zc z y') ++ [])) (wx := wd aC a1 shC (zc z y) ++ [(aD, oD aC go)]) (As := [.ref (a1 0), .ref aD]) (st := []) (y0 := yL_meanDanger) (idx := 231) G hTh hNo KW_meanDanger (fun _ => lw_meanDanger l hst hR hY hCW) rfl ⟨rfl, rfl, Nat.le_of_ble_eq_true rfl, Nat.le_of_ble_eq_true rfl⟩ ⟨by show 100 + 5 * n + 5 ≤ 3162; omega, by show 3000 + 30 * n + 30 ≤ 121779; omega⟩ (Nat.le_of_ble_eq_true rfl) dL_law_2053 (fun i9 wx9 hp => ?_)
  obtain ⟨ga, z2, y2, rfl, rfl, hk0, hk1⟩ := hp
  refine r_ws (lW_D _ _ _ _ _ _ _ _ _).symm ?_
  refine r_istore (Lv' := [(6, vi (kcMD z)), (0, .ref b), (1, .ref (a1 0)), (2, .ref (a2 40)), (3, .ref ao), (4, .ref aD), (5, vi (5 * (n : Int)))]) G dL_law_2056 (by decide) rfl ?_
  refine r_aload_n G 3 dL_law_2058 rfl ?_
  refine r_ws (lW_M _ _ _ _ _ _ _ _ _) ?_
  refine r_calld (w0 := [(ao, oL aC fo)] ++ (wd aC a1 shC (zc z2 y2) ++ [(aD, oD aC ga)])) (w2 := []) (ad := a2) (sh := shM) (z := z) (y := y') (q0 := 0) (nb := 40) (As := []) (st := []) (y0 := yX8_meanDanger) (idx := 233) (C := RX8) G KM_meanDanger (fun hd => m_meanDanger l hd hR hY3 hWF) rfl rfl rfl ⟨rfl, rfl, Nat.le_of_ble_eq_true rfl, Nat.le_of_ble_eq_true rfl⟩ ⟨by show 100 + 5 * n + 5 ≤ 3162; omega, by show 3000 + 30 * n + 30 ≤ 121779; omega⟩ (Nat.le_of_ble_eq_true rfl) dL_law_2059 (fun b9 z3 y3 hp => ?_)
  obtain ⟨e71, hb, ez3, hRy3, hfr⟩ := hp
  subst z3
  have hRz3 := hR
  refine r_ws (lW_M _ _ _ _ _ _ _ _ _).symm ?_
  refine r_dstore (Lv' := [(7, .double b9), (6, vi (kcMD z)), (0, .ref b), (1, .ref (a1 0)), (2, .ref (a2 40)), (3, .ref ao), (4, .ref aD), (5, vi (5 * (n : Int)))]) G dL_law_2062 (by decide) rfl ?_
  refine r_aload_n G 4 dL_law_2064 rfl ?_
  refine r_ws (lW_M _ _ _ _ _ _ _ _ _) ?_
  refine r_calli (w0 := [(ao, oL aC fo)] ++ (wd aC a1 shC (zc z2 y2) ++ [(aD, oD aC ga)])) (w2 := []) (ad := a2) (sh := shM) (z := z) (y := y3) (q0 := 0) (nb := 40) (As := []) (st := []) (y0 := yX8_thrown) (idx := 130) (C := RX8) G KM_thrown (fun hd => m_thrown l hd hRz3 hRy3) rfl rfl rfl ⟨rfl, rfl, Nat.le_of_ble_eq_true rfl, Nat.le_of_ble_eq_true rfl⟩ ⟨by show 100 + 5 * n + 5 ≤ 3162; omega, by show 3000 + 30 * n + 30 ≤ 121779; omega⟩ (Nat.le_of_ble_eq_true rfl) dL_law_2065 (fun b8 z4 y4 hp => ?_)
  obtain ⟨rfl, ez4, ey4⟩ := hp
  subst z4
  subst y4
  rw [e71]
  refine r_ws (lW_M _ _ _ _ _ _ _ _ _).symm ?_
  refine r_iload G 1 dL_law_2068 rfl ?_
  refine r_icmp_same (tgt := 2075) G dL_law_2070 (by decide) ?_
  refine r_iload G 1 dL_law_2075 rfl ?_
  refine r_ifne_i (tgt := 2112) G dL_law_2077 (by decide) (by unfold kcMD; (repeat' split) <;> omega) (fun h0 => ?_) (fun h0 => ?_)
  · obtain ⟨ez2, ey2⟩ := hk1 h0
    subst z2
    subst y2
    refine r_goto (tgt := 2128) G dL_law_2112 (by decide) ?_
    refine r_sub (Lv' := lL b (a1 0) (a2 40) ao aD (5 * (n : Int))) [2, 3, 4, 5, 6, 7] rfl ?_
    exact kk z y y3 fo ga (LI_q hI hRy3 hfr)
  · obtain ⟨r_, hga, hre⟩ := hk0 h0
    obtain ⟨rfl, ez2, ey2⟩ := hre
    subst z2
    subst y2
    obtain rfl := hb h0
    refine r_aload G 6 dL_law_2080 rfl ?_
    refine r_iconst G dL_law_2082 ?_
    refine r_dald (f := ga) G 36 rfl dL_law_2083 ?_
    rw [hga]
    have hnn := mdF_n hR h0
    refine r_dload G 0 dL_law_2084 rfl ?_
    refine r_dcmp (v := 0) G (dcmp_s _ hnn) dL_law_2086 ?_
    refine r_ifeq_0 (tgt := 2112) G dL_law_2087 (by decide) ?_
    refine r_goto (tgt := 2128) G dL_law_2112 (by decide) ?_
    refine r_sub (Lv' := lL b (a1 0) (a2 40) ao aD (5 * (n : Int))) [2, 3, 4, 5, 6, 7] rfl ?_
    exact kk z y y3 fo ga (LI_q hI hRy3 hfr)
set_option maxHeartbeats 4000000 in
set_option maxRecDepth 100000 in
theorem lcase_31 (l : Launch) (hst : l.stackTraces = false) {p : Program} {e : Env} {s : State} {m : MethodId} {below : List Frame} {meth : Method} {c : Code} {D : va_G} {aC : Nat → ClassId} {a1 a2 : Nat → Nat} {ao aD b L : Nat} {xs : Nat → Int32} {Q : State → Prop} (G : lG p s m #[.ref b] meth c cL_law RL 9 D aC (lA s)) (hTh : wTh (lA s) s s.heap) (hNo : wNo s) (hX : va_X b L xs s s.heap) (hbl : b < s.heap.size) (hL : L ≤ 2560) {z y y' : wZ} {n : Nat} (hI : LI n z y y') (hn : 5 * n + 5 ≤ L) {fo : Nat → Int64} {go : Nat → UInt64} (kk : ∀ (z2 y2 y3 : wZ) (fo : Nat → Int64) (go : Nat → UInt64), LI (n + 1) z2 y2 y3 → JR p l e room_1 s m #[.ref b] below meth c 9 D (lA s) Q (100 + 5 * n + 5) (3000 + 30 * n + 30) (lW aC a1 a2 ao aD fo go (zc z2 y2) (zc z2 y3)) 2128 (lL b (a1 0) (a2 40) ao aD (5 * (n : Int))) []) : JR p l e room_1 s m #[.ref b] below meth c 9 D (lA s) Q (100 + 5 * n) (3000 + 30 * n) (lW aC a1 a2 ao aD fo go (zc z y) (zc z y')) 2115 (lL b (a1 0) (a2 40) ao aD (5 * (n : Int))) [] := by
  obtain ⟨hR, hY, hY3, hCW, hMI, h6, h29⟩ := id hI
  have hWF := hCW.1
  refine r_aload_n G 1 dL_law_2115 rfl ?_
  refine r_calli (w0 := [(ao, oL aC fo)]) (w2 := [(aD, oD aC go)] ++ (wd aC a2 shM (zc z y') ++ [])) (ad := a1) (sh := shC) (z := z) (y := y) (q0 := 0) (nb := 0) (As := []) (st := []) (y0 := yX7_isSound) (idx := 234) (C := RX7) G KD_isSound (fun hd => c_isSound l hd hR hY hCW) rfl rfl rfl ⟨rfl, rfl, Nat.le_of_ble_eq_true rfl, Nat.le_of_ble_eq_true rfl⟩ ⟨by show 100 + 5 * n ≤ 3162; omega, by show 3000 + 30 * n ≤ 121779; omega⟩ (Nat.le_of_ble_eq_true rfl) dL_law_2116 (fun rc z2 y2 hp => ?_)
  obtain ⟨ez2, rfl, hRy2, hk2⟩ := hp
  subst z2
  refine r_widen (100 + 5 * n + 5) (3000 + 30 * n + 30) (by omega) (by omega) ?_
  refine r_aload_n G 2 dL_law_2119 rfl ?_
  refine r_ws (lW_M _ _ _ _ _ _ _ _ _) ?_
  refine r_calli (w0 := [(ao, oL aC fo)] ++ (wd aC a1 shC (zc z y2) ++ [(aD, oD aC go)])) (w2 := []) (ad := a2) (sh := shM) (z := z) (y := y') (q0 := 0) (nb := 40) (As := []) (st := [vi 1]) (y0 := yX8_isSound) (idx := 238) (C := RX8) G KM_isSound (fun hd => m_isSound l hd hR hY3) rfl rfl rfl ⟨rfl, rfl, Nat.le_of_ble_eq_true rfl, Nat.le_of_ble_eq_true rfl⟩ ⟨by show 100 + 5 * n + 5 ≤ 3162; omega, by show 3000 + 30 * n + 30 ≤ 121779; omega⟩ (Nat.le_of_ble_eq_true rfl) dL_law_2120 (fun b9 z3 y3 hp => ?_)
  obtain ⟨ez3, rfl, hRy3, hfr⟩ := hp
  subst z3
  refine r_ws (lW_M _ _ _ _ _ _ _ _ _).symm ?_
  refine r_icmp_same (tgt := 2128) G dL_law_2123 (by decide) ?_
  exact kk z y2 y3 fo go (LI_u hI hR hRy2 hRy3 ⟨hWF, CIv_y hCW.2.1 (hk2 64 (by decide)), CIv_y hCW.2.2 (hk2 65 (by decide))⟩ (fun k' _ h => hfr k' h) (by omega) rfl rfl rfl)
